/-! ===== the class's tape, and what is added to a text ===== -/
def tapeAdd (μ : Mem) (v : Int32) : Mem := if 160 ≤ μ 24 1 then μ else mset (mset μ 25 (μ 24 1).toNatClampNeg v) 24 1 (μ 24 1 + 1)
def textAdd (μ : Mem) (o : Nat) (v : Int32) : Mem := if 160 ≤ μ o 3 then μ else mset (mset μ (o + 1) (μ o 3).toNatClampNeg v) o 3 (μ o 3 + 1)
def letB (v : Int32) : Bool := decide (97 ≤ v) && decide (v ≤ 122)
def digB (v : Int32) : Bool := decide (48 ≤ v) && decide (v ≤ 57)
theorem sg_X5_add_0 {G : GW} {K : Option Value → Mem → Prop} {μ : Mem} {x1 : Int32}  (h : ((160 ≤ (μ 24 1)) → K none μ) ∧ ((¬ (160 ≤ (μ 24 1))) → (vp_in (μ 24 1) 160) ∧ K none (mset (mset μ 25 (μ 24 1).toNatClampNeg x1) 24 1 ((μ 24 1) + 1)))) : Ev2 G mX5_add 1 0 [(0, .ref 24), (1, .int x1)] [] μ K := by
  refine ev_aload_n dX5_add_0 0 rfl (by decide) ?_
  refine ev_getI' (v := (μ 24 1)) fl_5_15 rfl kd_24 rfl dX5_add_1 ?_
  refine ev_aload_n dX5_add_4 0 rfl (by decide) ?_
  refine ev_getR' fl_5_9 rfl kd_24 rf_24_0 dX5_add_5 ?_
  refine ev_alen' (v := 160) (by rw [show S0.2.2.1 25 = _ from kd_25]; decide) ln_25 rfl dX5_add_8 ?_
  refine ev_icmp_ge (tgt := 32) dX5_add_9 rfl (fun c1 => ?_) (fun c1 => ?_)
  · have h2 := h.1 c1
    exact ev_return dX5_add_32 rfl rfl rfl ⟨rfl, h2⟩
  · have h3 := h.2 c1
    refine ev_aload_n dX5_add_12 0 rfl (by decide) ?_
    refine ev_getR' fl_5_9 rfl kd_24 rf_24_0 dX5_add_13 ?_
    refine ev_aload_n dX5_add_16 0 rfl (by decide) ?_
    refine ev_getI' (v := (μ 24 1)) fl_5_15 rfl kd_24 rfl dX5_add_17 ?_
    refine ev_iload_n dX5_add_20 1 rfl ?_
    have p4 := h3.1
    have h5 := h3.2
    refine ev_iastore' (j := (μ 24 1).toNatClampNeg) kd_25 ln_25 p4 rfl dX5_add_21 ?_
    refine ev_aload_n dX5_add_22 0 rfl (by decide) ?_
    refine ev_dup dX5_add_23 rfl ?_
    refine ev_getI' (v := (μ 24 1)) fl_5_15 rfl kd_24 rfl dX5_add_24 ?_
    refine ev_iconst (v := 1) dX5_add_27 rfl ?_
    refine ev_iadd dX5_add_28 ?_
    refine ev_putI fl_5_15 ⟨rfl, rfl, rfl⟩ (fun r hr => by cases hr; rfl) kd_24 dX5_add_29 ?_
    exact ev_return dX5_add_32 rfl rfl rfl ⟨rfl, h5⟩
theorem lt160 {n : Nat} (hn : n ≤ 160) (c : ¬ (160 : Int32) ≤ nI n) : n < 160 := by
  rcases Nat.lt_or_ge n 160 with q | q
  · exact q
  · exact absurd (nI_le (a := 160) q (by omega)) c
theorem ct_X5_add {G : GW} (x1 : Int32) (μ : Mem) (hp : ∃ n, n ≤ 160 ∧ μ 24 1 = nI n) : Ev2 G mX5_add 1 0 [(0, .ref 24), (1, .int x1)] [] μ (fun v μ' => v = none ∧ μ' = tapeAdd μ x1) := by
  obtain ⟨n, hn, e⟩ := hp
  unfold tapeAdd
  refine sg_X5_add_0 ⟨fun c => ⟨rfl, ?_⟩, fun c => ⟨?_, rfl, ?_⟩⟩
  · rw [if_pos c]
  · rw [e] at c ⊢
    exact vp_nI (lt160 hn c) (by omega)
  · rw [if_neg c]
theorem sg_X5_clear_0 {G : GW} {K : Option Value → Mem → Prop} {μ : Mem}   (h : K none (mset μ 24 1 0)) : Ev2 G mX5_clear 1 0 [(0, .ref 24)] [] μ K := by
  refine ev_aload_n dX5_clear_0 0 rfl (by decide) ?_
  refine ev_iconst (v := 0) dX5_clear_1 rfl ?_
  refine ev_putI fl_5_15 ⟨rfl, rfl, rfl⟩ (fun r hr => by cases hr; rfl) kd_24 dX5_clear_2 ?_
  exact ev_return dX5_clear_5 rfl rfl rfl ⟨rfl, h⟩
theorem ct_X5_clear {G : GW} (μ : Mem) : Ev2 G mX5_clear 1 0 [(0, .ref 24)] [] μ (fun v μ' => v = none ∧ μ' = mset μ 24 1 0) := sg_X5_clear_0 ⟨rfl, rfl⟩
theorem sg_X5_rewind_0 {G : GW} {K : Option Value → Mem → Prop} {μ : Mem}   (h : K none (mset μ 24 2 0)) : Ev2 G mX5_rewind 1 0 [(0, .ref 24)] [] μ K := by
  refine ev_aload_n dX5_rewind_0 0 rfl (by decide) ?_
  refine ev_iconst (v := 0) dX5_rewind_1 rfl ?_
  refine ev_putI fl_5_19 ⟨rfl, rfl, rfl⟩ (fun r hr => by cases hr; rfl) kd_24 dX5_rewind_2 ?_
  exact ev_return dX5_rewind_5 rfl rfl rfl ⟨rfl, h⟩
theorem ct_X5_rewind {G : GW} (μ : Mem) : Ev2 G mX5_rewind 1 0 [(0, .ref 24)] [] μ (fun v μ' => v = none ∧ μ' = mset μ 24 2 0) := sg_X5_rewind_0 ⟨rfl, rfl⟩
theorem sg_X5_isLetter_0 {G : GW} {K : Option Value → Mem → Prop} {μ : Mem}   (h : (vp_in (μ 24 2) 160) ∧ (((μ 25 (μ 24 2).toNatClampNeg) < 97) → K (some (.int 0)) μ) ∧ ((¬ ((μ 25 (μ 24 2).toNatClampNeg) < 97)) → (vp_in (μ 24 2) 160) ∧ ((122 < (μ 25 (μ 24 2).toNatClampNeg)) → K (some (.int 0)) μ) ∧ ((¬ (122 < (μ 25 (μ 24 2).toNatClampNeg))) → K (some (.int 1)) μ))) : Ev2 G mX5_isLetter 1 0 [(0, .ref 24)] [] μ K := by
  refine ev_aload_n dX5_isLetter_0 0 rfl (by decide) ?_
  refine ev_getR' fl_5_9 rfl kd_24 rf_24_0 dX5_isLetter_1 ?_
  refine ev_aload_n dX5_isLetter_4 0 rfl (by decide) ?_
  refine ev_getI' (v := (μ 24 2)) fl_5_19 rfl kd_24 rfl dX5_isLetter_5 ?_
  have p1 := h.1
  have h2 := h.2
  refine ev_iaload' (v := (μ 25 (μ 24 2).toNatClampNeg)) kd_25 ln_25 p1 rfl dX5_isLetter_8 ?_
  refine ev_bipush (v := 97) dX5_isLetter_9 rfl ?_
  refine ev_icmp_lt (tgt := 32) dX5_isLetter_11 rfl (fun c3 => ?_) (fun c3 => ?_)
  · have h4 := h2.1 c3
    refine ev_iconst (v := 0) dX5_isLetter_32 rfl ?_
    exact ev_ireturn dX5_isLetter_33 rfl rfl rfl rfl ⟨rfl, h4⟩
  · have h5 := h2.2 c3
    refine ev_aload_n dX5_isLetter_14 0 rfl (by decide) ?_
    refine ev_getR' fl_5_9 rfl kd_24 rf_24_0 dX5_isLetter_15 ?_
    refine ev_aload_n dX5_isLetter_18 0 rfl (by decide) ?_
    refine ev_getI' (v := (μ 24 2)) fl_5_19 rfl kd_24 rfl dX5_isLetter_19 ?_
    have p6 := h5.1
    have h7 := h5.2
    refine ev_iaload' (v := (μ 25 (μ 24 2).toNatClampNeg)) kd_25 ln_25 p6 rfl dX5_isLetter_22 ?_
    refine ev_bipush (v := 122) dX5_isLetter_23 rfl ?_
    refine ev_icmp_gt (tgt := 32) dX5_isLetter_25 rfl (fun c8 => ?_) (fun c8 => ?_)
    · have h9 := h7.1 c8
      refine ev_iconst (v := 0) dX5_isLetter_32 rfl ?_
      exact ev_ireturn dX5_isLetter_33 rfl rfl rfl rfl ⟨rfl, h9⟩
    · have h10 := h7.2 c8
      refine ev_iconst (v := 1) dX5_isLetter_28 rfl ?_
      refine ev_goto (tgt := 33) dX5_isLetter_29 rfl ?_
      exact ev_ireturn dX5_isLetter_33 rfl rfl rfl rfl ⟨rfl, h10⟩
theorem ct_X5_isLetter {G : GW} (μ : Mem) (hp : vp_in (μ 24 2) 160) : Ev2 G mX5_isLetter 1 0 [(0, .ref 24)] [] μ (fun v μ' => v = some (.int (bi (letB (μ 25 (μ 24 2).toNatClampNeg)))) ∧ μ' = μ) := by
  refine sg_X5_isLetter_0 ⟨hp, fun c => ⟨?_, rfl⟩, fun c => ⟨hp, fun d => ⟨?_, rfl⟩, fun d => ⟨?_, rfl⟩⟩⟩
  · have : letB (μ 25 (μ 24 2).toNatClampNeg) = false := by unfold letB; simp [Int32.not_le.mpr c]
    rw [this]; rfl
  · have : letB (μ 25 (μ 24 2).toNatClampNeg) = false := by unfold letB; simp [Int32.not_le.mpr d]
    rw [this]; rfl
  · have : letB (μ 25 (μ 24 2).toNatClampNeg) = true := by unfold letB; simp [Int32.not_lt.mp c, Int32.not_lt.mp d]
    rw [this]; rfl
theorem sg_X5_isDigit_0 {G : GW} {K : Option Value → Mem → Prop} {μ : Mem}   (h : (vp_in (μ 24 2) 160) ∧ (((μ 25 (μ 24 2).toNatClampNeg) < 48) → K (some (.int 0)) μ) ∧ ((¬ ((μ 25 (μ 24 2).toNatClampNeg) < 48)) → (vp_in (μ 24 2) 160) ∧ ((57 < (μ 25 (μ 24 2).toNatClampNeg)) → K (some (.int 0)) μ) ∧ ((¬ (57 < (μ 25 (μ 24 2).toNatClampNeg))) → K (some (.int 1)) μ))) : Ev2 G mX5_isDigit 1 0 [(0, .ref 24)] [] μ K := by
  refine ev_aload_n dX5_isDigit_0 0 rfl (by decide) ?_
  refine ev_getR' fl_5_9 rfl kd_24 rf_24_0 dX5_isDigit_1 ?_
  refine ev_aload_n dX5_isDigit_4 0 rfl (by decide) ?_
  refine ev_getI' (v := (μ 24 2)) fl_5_19 rfl kd_24 rfl dX5_isDigit_5 ?_
  have p1 := h.1
  have h2 := h.2
  refine ev_iaload' (v := (μ 25 (μ 24 2).toNatClampNeg)) kd_25 ln_25 p1 rfl dX5_isDigit_8 ?_
  refine ev_bipush (v := 48) dX5_isDigit_9 rfl ?_
  refine ev_icmp_lt (tgt := 32) dX5_isDigit_11 rfl (fun c3 => ?_) (fun c3 => ?_)
  · have h4 := h2.1 c3
    refine ev_iconst (v := 0) dX5_isDigit_32 rfl ?_
    exact ev_ireturn dX5_isDigit_33 rfl rfl rfl rfl ⟨rfl, h4⟩
  · have h5 := h2.2 c3
    refine ev_aload_n dX5_isDigit_14 0 rfl (by decide) ?_
    refine ev_getR' fl_5_9 rfl kd_24 rf_24_0 dX5_isDigit_15 ?_
    refine ev_aload_n dX5_isDigit_18 0 rfl (by decide) ?_
    refine ev_getI' (v := (μ 24 2)) fl_5_19 rfl kd_24 rfl dX5_isDigit_19 ?_
    have p6 := h5.1
    have h7 := h5.2
    refine ev_iaload' (v := (μ 25 (μ 24 2).toNatClampNeg)) kd_25 ln_25 p6 rfl dX5_isDigit_22 ?_
    refine ev_bipush (v := 57) dX5_isDigit_23 rfl ?_
    refine ev_icmp_gt (tgt := 32) dX5_isDigit_25 rfl (fun c8 => ?_) (fun c8 => ?_)
    · have h9 := h7.1 c8
      refine ev_iconst (v := 0) dX5_isDigit_32 rfl ?_
      exact ev_ireturn dX5_isDigit_33 rfl rfl rfl rfl ⟨rfl, h9⟩
    · have h10 := h7.2 c8
      refine ev_iconst (v := 1) dX5_isDigit_28 rfl ?_
      refine ev_goto (tgt := 33) dX5_isDigit_29 rfl ?_
      exact ev_ireturn dX5_isDigit_33 rfl rfl rfl rfl ⟨rfl, h10⟩
theorem ct_X5_isDigit {G : GW} (μ : Mem) (hp : vp_in (μ 24 2) 160) : Ev2 G mX5_isDigit 1 0 [(0, .ref 24)] [] μ (fun v μ' => v = some (.int (bi (digB (μ 25 (μ 24 2).toNatClampNeg)))) ∧ μ' = μ) := by
  refine sg_X5_isDigit_0 ⟨hp, fun c => ⟨?_, rfl⟩, fun c => ⟨hp, fun d => ⟨?_, rfl⟩, fun d => ⟨?_, rfl⟩⟩⟩
  · have : digB (μ 25 (μ 24 2).toNatClampNeg) = false := by unfold digB; simp [Int32.not_le.mpr c]
    rw [this]; rfl
  · have : digB (μ 25 (μ 24 2).toNatClampNeg) = false := by unfold digB; simp [Int32.not_le.mpr d]
    rw [this]; rfl
  · have : digB (μ 25 (μ 24 2).toNatClampNeg) = true := by unfold digB; simp [Int32.not_lt.mp c, Int32.not_lt.mp d]
    rw [this]; rfl
theorem sg_X6_clear_0 {G : GW} {K : Option Value → Mem → Prop} {μ : Mem} {o : Nat} (ho : isTx o) (h : K none (mset μ o 3 0)) : Ev2 G mX6_clear 1 0 [(0, .ref o)] [] μ K := by
  refine ev_aload_n dX6_clear_0 0 rfl (nzTx ho) ?_
  refine ev_iconst (v := 0) dX6_clear_1 rfl ?_
  refine ev_putI fl_6_21 ⟨rfl, rfl, rfl⟩ (fun r hr => by cases hr; rfl) (kdTx ho) dX6_clear_2 ?_
  exact ev_return dX6_clear_5 rfl rfl rfl ⟨rfl, h⟩
theorem ct_X6_clear {G : GW} (o : Nat) (ho : isTx o) (μ : Mem) : Ev2 G mX6_clear 1 0 [(0, .ref o)] [] μ (fun v μ' => v = none ∧ μ' = mset μ o 3 0) := sg_X6_clear_0 ho ⟨rfl, rfl⟩
theorem sg_X6_add_0 {G : GW} {K : Option Value → Mem → Prop} {μ : Mem} {o : Nat} {x1 : Int32} (ho : isTx o) (h : ((160 ≤ (μ o 3)) → K none μ) ∧ ((¬ (160 ≤ (μ o 3))) → (vp_in (μ o 3) 160) ∧ K none (mset (mset μ (o + 1) (μ o 3).toNatClampNeg x1) o 3 (((mset μ (o + 1) (μ o 3).toNatClampNeg x1) o 3) + 1)))) : Ev2 G mX6_add 1 0 [(0, .ref o), (1, .int x1)] [] μ K := by
  refine ev_aload_n dX6_add_0 0 rfl (nzTx ho) ?_
  refine ev_getI' (v := (μ o 3)) fl_6_21 rfl (kdTx ho) rfl dX6_add_1 ?_
  refine ev_aload_n dX6_add_4 0 rfl (nzTx ho) ?_
  refine ev_getR' fl_6_9 rfl (kdTx ho) (rfTx0 ho) dX6_add_5 ?_
  refine ev_alen' (v := 160) (by rw [show S0.2.2.1 (o + 1) = _ from (kdTx0 ho)]; decide) (lnTx0 ho) rfl dX6_add_8 ?_
  refine ev_icmp_ge (tgt := 32) dX6_add_9 rfl (fun c1 => ?_) (fun c1 => ?_)
  · have h2 := h.1 c1
    exact ev_return dX6_add_32 rfl rfl rfl ⟨rfl, h2⟩
  · have h3 := h.2 c1
    refine ev_aload_n dX6_add_12 0 rfl (nzTx ho) ?_
    refine ev_getR' fl_6_9 rfl (kdTx ho) (rfTx0 ho) dX6_add_13 ?_
    refine ev_aload_n dX6_add_16 0 rfl (nzTx ho) ?_
    refine ev_getI' (v := (μ o 3)) fl_6_21 rfl (kdTx ho) rfl dX6_add_17 ?_
    refine ev_iload_n dX6_add_20 1 rfl ?_
    have p4 := h3.1
    have h5 := h3.2
    refine ev_iastore' (j := (μ o 3).toNatClampNeg) (kdTx0 ho) (lnTx0 ho) p4 rfl dX6_add_21 ?_
    refine ev_aload_n dX6_add_22 0 rfl (nzTx ho) ?_
    refine ev_dup dX6_add_23 rfl ?_
    refine ev_getI' (v := ((mset μ (o + 1) (μ o 3).toNatClampNeg x1) o 3)) fl_6_21 rfl (kdTx ho) rfl dX6_add_24 ?_
    refine ev_iconst (v := 1) dX6_add_27 rfl ?_
    refine ev_iadd dX6_add_28 ?_
    refine ev_putI fl_6_21 ⟨rfl, rfl, rfl⟩ (fun r hr => by cases hr; rfl) (kdTx ho) dX6_add_29 ?_
    exact ev_return dX6_add_32 rfl rfl rfl ⟨rfl, h5⟩
theorem ct_X6_add {G : GW} (o : Nat) (ho : isTx o) (x1 : Int32) (μ : Mem) (hp : ∃ n, n ≤ 160 ∧ μ o 3 = nI n) : Ev2 G mX6_add 1 0 [(0, .ref o), (1, .int x1)] [] μ (fun v μ' => v = none ∧ μ' = textAdd μ o x1) := by
  obtain ⟨n, hn, e⟩ := hp
  unfold textAdd
  refine sg_X6_add_0 ho ⟨fun c => ⟨rfl, ?_⟩, fun c => ⟨?_, rfl, ?_⟩⟩
  · rw [if_pos c]
  · rw [e] at c ⊢
    exact vp_nI (lt160 hn c) (by omega)
  · rw [if_neg c, mset_ne (b := o) (a := o + 1) (by omega)]
theorem sg_X6_endPart_0 {G : GW} {K : Option Value → Mem → Prop} {μ : Mem} {o : Nat} {x1 : Int32} (ho : isTx o) (h : (vp_in x1 3) ∧ K none (mset μ (o + 2) x1.toNatClampNeg (μ o 3))) : Ev2 G mX6_endPart 1 0 [(0, .ref o), (1, .int x1)] [] μ K := by
  refine ev_aload_n dX6_endPart_0 0 rfl (nzTx ho) ?_
  refine ev_getR' fl_6_15 rfl (kdTx ho) (rfTx1 ho) dX6_endPart_1 ?_
  refine ev_iload_n dX6_endPart_4 1 rfl ?_
  refine ev_aload_n dX6_endPart_5 0 rfl (nzTx ho) ?_
  refine ev_getI' (v := (μ o 3)) fl_6_21 rfl (kdTx ho) rfl dX6_endPart_6 ?_
  have p1 := h.1
  have h2 := h.2
  refine ev_iastore' (j := x1.toNatClampNeg) (kdTx1 ho) (lnTx1 ho) p1 rfl dX6_endPart_9 ?_
  exact ev_return dX6_endPart_10 rfl rfl rfl ⟨rfl, h2⟩
theorem ct_X6_endPart {G : GW} (o : Nat) (ho : isTx o) (x1 : Int32) (μ : Mem) (hp : vp_in x1 3) : Ev2 G mX6_endPart 1 0 [(0, .ref o), (1, .int x1)] [] μ (fun v μ' => v = none ∧ μ' = mset μ (o + 2) x1.toNatClampNeg (μ o 3)) := sg_X6_endPart_0 ho ⟨hp, rfl, rfl⟩
/-! feed -/
def addT (α : Mem) (v : Int32) : Mem := if 160 ≤ α 0 4 then α else mset (mset α 10 (aT α) v) 0 4 (α 0 4 + 1)
theorem addT_row {α : Mem} {v : Int32} {r : Nat} (h : r ≠ 0 ∧ r ≠ 10) : addT α v r = α r := by
  unfold addT
  split
  · rfl
  · rw [mset_ne h.1, mset_ne h.2]
theorem addT_0 {α : Mem} {v : Int32} {k : Nat} (h : k ≠ 4) : addT α v 0 k = α 0 k := by
  unfold addT
  split
  · rfl
  · rw [mset_other (by omega), mset_ne (by omega)]
theorem wf_addT {α : Mem} (hf : WF α) {v : Int32} (hv : inB v 0 255 = true) : WF (addT α v) := by
  by_cases c : 160 ≤ α 0 4
  · unfold addT
    rw [if_pos c]
    exact hf
  · have e : ∀ r, (r ≠ 0 ∧ r ≠ 10) → addT α v r = α r := fun r h => addT_row h
    have e0 : ∀ k, k ≠ 4 → addT α v 0 k = α 0 k := fun k h => addT_0 h
    obtain ⟨wc, ww, wr, wh, wt, wx, wi, ws⟩ := hf
    have hT := wc.2.2.2.2.1
    have hT' := wc.2.2.2.2.2
    have hlt : aT α < 160 := lt160 hT' (hT ▸ c)
    have e4 : addT α v 0 4 = nI (aT α + 1) := by
      unfold addT
      rw [if_neg c, mset_same, hT, add1]
    have eT : aT (addT α v) = aT α + 1 := by
      show (addT α v 0 4).toNatClampNeg = _
      rw [e4, ix_nI (by omega)]
    have eN : aN (addT α v) = aN α := by unfold aN; rw [e0 0 (by omega)]
    have eR : aR (addT α v) = aR α := by unfold aR; rw [e0 1 (by omega)]
    have eX : aX (addT α v) = aX α := by unfold aX; rw [e0 2 (by omega)]
    have eL : aL (addT α v) = aL α := by unfold aL; rw [e0 3 (by omega)]
    refine ⟨⟨?_, ?_, ?_, ?_, ?_⟩, ww.eq (e 1 (by omega)), wr.eq (e0 1 (by omega)) (e 2 (by omega)) (e 3 (by omega)), wh.eq wc (e0 0 (by omega)) (fun f _ i _ => by rw [e (4 + f) (by omega)]), ?_, wx.eq (e0 2 (by omega)) (e 17 (by omega)) (e 18 (by omega)), wi.eq (by rw [eN]; exact Nat.le_refl _) (by rw [eR]; exact Nat.le_refl _) (by rw [eX]; exact Nat.le_refl _) (e 11 (by omega)) (e 12 (by omega)) (e 13 (by omega)), ws.eq (e 14 (by omega)) (e 15 (by omega))⟩
    · rw [eN, e0 0 (by omega)]; exact wc.1
    · rw [eR, e0 1 (by omega)]; exact wc.2.1
    · rw [eX, e0 2 (by omega)]; exact wc.2.2.1
    · rw [eL, eX, e0 3 (by omega)]; exact wc.2.2.2.1
    · rw [eT, e4]; exact ⟨rfl, by omega⟩
    · intro i hi
      rw [eT] at hi
      have e10 : addT α v 10 = mset α 10 (aT α) v 10 := by
        unfold addT
        rw [if_neg c, mset_ne (by omega)]
      rw [e10]
      by_cases d : i = aT α
      · rw [d, mset_same]
        obtain ⟨b, hb, eb⟩ := inB_nI (m := 255) (by omega) hv
        exact ⟨b, by omega, eb⟩
      · rw [mset_other (by omega)]
        exact wt i (by omega)
theorem vx_addT {α μ : Mem} (hf : WF α) (h : VX α μ) (v : Int32) : VX (addT α v) (tapeAdd μ v) ∧ keepM μ (tapeAdd μ v) := by
  have hc : μ 24 1 = α 0 4 := h.1.1.2.2.2.2
  unfold tapeAdd
  rw [hc]
  by_cases c : 160 ≤ α 0 4
  · unfold addT
    rw [if_pos c, if_pos c]
    exact ⟨h, keepM.rf μ⟩
  · rw [if_neg c]
    have e : ∀ r, (r ≠ 0 ∧ r ≠ 10) → addT α v r = α r := fun r h => addT_row h
    have e0 : ∀ k, k ≠ 4 → addT α v 0 k = α 0 k := fun k h => addT_0 h
    have n : ∀ a, (a ≠ 24 ∧ a ≠ 25) → mset (mset μ 25 (α 0 4).toNatClampNeg v) 24 1 (α 0 4 + 1) a = μ a := fun a h => by rw [mset_ne h.1, mset_ne h.2]
    obtain ⟨⟨vc, vw, vr, vh, vt, vi, vs, vx⟩, vd⟩ := h
    have hT := hf.1.2.2.2.2.1
    have hlt : aT α < 160 := lt160 hf.1.2.2.2.2.2 (hT ▸ c)
    have e4 : addT α v 0 4 = α 0 4 + 1 := by
      unfold addT
      rw [if_neg c, mset_same]
    have eT : aT (addT α v) = aT α + 1 := by
      show (addT α v 0 4).toNatClampNeg = _
      rw [e4, hT, add1, ix_nI (by omega)]
    refine ⟨⟨⟨⟨?_, ?_, ?_, ?_, ?_⟩, ?_, ?_, ?_, ?_, ?_, ?_, ?_⟩, ?_⟩, fun a ha => n a (by omega)⟩
    · rw [n 10 (by omega), e0 0 (by omega)]; exact vc.1
    · rw [n 10 (by omega), e0 1 (by omega)]; exact vc.2.1
    · rw [n 10 (by omega), e0 2 (by omega)]; exact vc.2.2.1
    · rw [n 10 (by omega), e0 3 (by omega)]; exact vc.2.2.2.1
    · rw [mset_same, e4]
    · exact vw.eq (e 1 (by omega)) (fun a _ => n (12 + a) (by omega))
    · exact vr.eq (e0 1 (by omega)) (e 2 (by omega)) (e 3 (by omega)) (n 20 (by omega)) (n 21 (by omega))
    · exact vh.eq hf.1 (e0 0 (by omega)) (fun f _ i _ => by rw [e (4 + f) (by omega)]) (fun i _ f _ => by rw [n (43 + i) (by omega)])
    · intro i hi
      rw [eT] at hi
      have e10 : addT α v 10 = mset α 10 (aT α) v 10 := by
        unfold addT
        rw [if_neg c, mset_ne (by omega)]
      rw [e10, mset_ne (by omega)]
      have eq : (α 0 4).toNatClampNeg = aT α := rfl
      rw [eq]
      by_cases d : i = aT α
      · rw [d, mset_same, mset_same]
      · rw [mset_other (by omega), mset_other (by omega)]
        exact vt i (by omega)
    · exact vi.eq (e 11 (by omega)) (e 12 (by omega)) (e 13 (by omega)) (n 32 (by omega)) (fun a _ => n (34 + a) (by omega)) (n 41 (by omega))
    · exact vs.eq (e 14 (by omega)) (e 15 (by omega)) (e 16 (by omega)) (fun a _ _ => n a (by omega))
    · exact vx.eq hf.1 (e0 2 (by omega)) (e 17 (by omega)) (e 18 (by omega)) (fun a _ _ => n a (by omega))
    · exact vd.eq (e0 0 (by omega)) (e0 3 (by omega)) (e 1 (by omega)) (fun f _ => e (4 + f) (by omega)) (e 17 (by omega)) (e 18 (by omega)) hf.1 (fun i _ f _ => by rw [n (43 + i) (by omega)])
def fdT (n k v : Int32) (α : Mem) : Mem := if n ≤ k then α else addT α v
theorem fd_t {n k v : Int32} {α : Mem} (h : n ≤ k) : fdT n k v α = α := if_pos h
theorem fd_f {n k v : Int32} {α : Mem} (h : ¬ n ≤ k) : fdT n k v α = addT α v := if_neg h
theorem wf_fdT {α : Mem} {n k v : Int32} (hf : WF α) (hv : inB v 0 255 = true) : WF (fdT n k v α) := by
  unfold fdT
  split
  · exact hf
  · exact wf_addT hf hv
def fedA (α : Mem) (n a b c d e : Int32) : Mem := fdT n 4 e (fdT n 3 d (fdT n 2 c (fdT n 1 b (addT α a))))
def sp_feed (α : Mem) (n a b c d e : Int32) : Int32 := if inB n 1 5 = true then (if bytesB a b c d e = true then (if α 0 4 + n ≤ 160 then fedA α n a b c d e 0 4 else -4) else -2) else -2
def sq_feed (α : Mem) (n a b c d e : Int32) : Mem := if inB n 1 5 = true ∧ bytesB a b c d e = true ∧ α 0 4 + n ≤ 160 then fedA α n a b c d e else α
theorem bytes_t {a b c d e : Int32} (h : bytesB a b c d e = true) : inB a 0 255 = true ∧ inB b 0 255 = true ∧ inB c 0 255 = true ∧ inB d 0 255 = true ∧ inB e 0 255 = true := by
  simp only [bytesB, Bool.and_eq_true] at h
  exact ⟨h.1.1.1.1, h.1.1.1.2, h.1.1.2, h.1.2, h.2⟩
theorem wf_feed {α : Mem} (hf : WF α) (n a b c d e : Int32) : WF (sq_feed α n a b c d e) := by
  unfold sq_feed
  split
  · rename_i q
    obtain ⟨h1, h2, h3, h4, h5⟩ := bytes_t q.2.1
    exact wf_fdT (wf_fdT (wf_fdT (wf_fdT (wf_addT hf h1) h2) h3) h4) h5
  · exact hf
/-- what is fed so far -/
def fedP (μ0 s m : Mem) : Prop := WF s ∧ VX s m ∧ keepM μ0 m
theorem fedP.go {μ0 s m : Mem} (h : fedP μ0 s m) {v : Int32} (hv : inB v 0 255 = true) : fedP μ0 (addT s v) (tapeAdd m v) := ⟨wf_addT h.1 hv, (vx_addT h.1 h.2.1 v).1, h.2.2.tr (vx_addT h.1 h.2.1 v).2⟩
theorem fedP.n {μ0 s m : Mem} (h : fedP μ0 s m) : ∃ n, n ≤ 160 ∧ m 24 1 = nI n := ⟨aT s, h.1.1.2.2.2.2.2, h.2.1.1.1.2.2.2.2.trans h.1.1.2.2.2.2.1⟩
theorem fedP.leaf {μ0 s m s' : Mem} (h : fedP μ0 s m) (e : s' = s) : some (Value.int (m 24 1)) = some (Value.int (s' 0 4)) ∧ VX s' m ∧ keepM μ0 m := by
  rw [e]
  exact ⟨by rw [h.2.1.1.1.2.2.2.2], h.2.1, h.2.2⟩
theorem sg_X7_feed_0 {G : GW} {K : Option Value → Mem → Prop} {μ : Mem} {x1 x2 x3 x4 x5 x6 : Int32}  (h : (((inB x1 (1 : Int32) (5 : Int32)) = false) → K (some (.int (-2))) μ) ∧ (((inB x1 (1 : Int32) (5 : Int32)) = true) → (((bytesB x2 x3 x4 x5 x6) = true) → ((((μ 24 1) + x1) ≤ 160) → (∃ n, n ≤ 160 ∧ μ 24 1 = nI n) ∧ ((x1 ≤ 1) → ((x1 ≤ 2) → ((x1 ≤ 3) → ((x1 ≤ 4) → K (some (.int ((tapeAdd μ x2) 24 1))) (tapeAdd μ x2)) ∧ ((¬ (x1 ≤ 4)) → (∃ n, n ≤ 160 ∧ (tapeAdd μ x2) 24 1 = nI n) ∧ K (some (.int ((tapeAdd (tapeAdd μ x2) x6) 24 1))) (tapeAdd (tapeAdd μ x2) x6))) ∧ ((¬ (x1 ≤ 3)) → (∃ n, n ≤ 160 ∧ (tapeAdd μ x2) 24 1 = nI n) ∧ ((x1 ≤ 4) → K (some (.int ((tapeAdd (tapeAdd μ x2) x5) 24 1))) (tapeAdd (tapeAdd μ x2) x5)) ∧ ((¬ (x1 ≤ 4)) → (∃ n, n ≤ 160 ∧ (tapeAdd (tapeAdd μ x2) x5) 24 1 = nI n) ∧ K (some (.int ((tapeAdd (tapeAdd (tapeAdd μ x2) x5) x6) 24 1))) (tapeAdd (tapeAdd (tapeAdd μ x2) x5) x6)))) ∧ ((¬ (x1 ≤ 2)) → (∃ n, n ≤ 160 ∧ (tapeAdd μ x2) 24 1 = nI n) ∧ ((x1 ≤ 3) → ((x1 ≤ 4) → K (some (.int ((tapeAdd (tapeAdd μ x2) x4) 24 1))) (tapeAdd (tapeAdd μ x2) x4)) ∧ ((¬ (x1 ≤ 4)) → (∃ n, n ≤ 160 ∧ (tapeAdd (tapeAdd μ x2) x4) 24 1 = nI n) ∧ K (some (.int ((tapeAdd (tapeAdd (tapeAdd μ x2) x4) x6) 24 1))) (tapeAdd (tapeAdd (tapeAdd μ x2) x4) x6))) ∧ ((¬ (x1 ≤ 3)) → (∃ n, n ≤ 160 ∧ (tapeAdd (tapeAdd μ x2) x4) 24 1 = nI n) ∧ ((x1 ≤ 4) → K (some (.int ((tapeAdd (tapeAdd (tapeAdd μ x2) x4) x5) 24 1))) (tapeAdd (tapeAdd (tapeAdd μ x2) x4) x5)) ∧ ((¬ (x1 ≤ 4)) → (∃ n, n ≤ 160 ∧ (tapeAdd (tapeAdd (tapeAdd μ x2) x4) x5) 24 1 = nI n) ∧ K (some (.int ((tapeAdd (tapeAdd (tapeAdd (tapeAdd μ x2) x4) x5) x6) 24 1))) (tapeAdd (tapeAdd (tapeAdd (tapeAdd μ x2) x4) x5) x6))))) ∧ ((¬ (x1 ≤ 1)) → (∃ n, n ≤ 160 ∧ (tapeAdd μ x2) 24 1 = nI n) ∧ ((x1 ≤ 2) → ((x1 ≤ 3) → ((x1 ≤ 4) → K (some (.int ((tapeAdd (tapeAdd μ x2) x3) 24 1))) (tapeAdd (tapeAdd μ x2) x3)) ∧ ((¬ (x1 ≤ 4)) → (∃ n, n ≤ 160 ∧ (tapeAdd (tapeAdd μ x2) x3) 24 1 = nI n) ∧ K (some (.int ((tapeAdd (tapeAdd (tapeAdd μ x2) x3) x6) 24 1))) (tapeAdd (tapeAdd (tapeAdd μ x2) x3) x6))) ∧ ((¬ (x1 ≤ 3)) → (∃ n, n ≤ 160 ∧ (tapeAdd (tapeAdd μ x2) x3) 24 1 = nI n) ∧ ((x1 ≤ 4) → K (some (.int ((tapeAdd (tapeAdd (tapeAdd μ x2) x3) x5) 24 1))) (tapeAdd (tapeAdd (tapeAdd μ x2) x3) x5)) ∧ ((¬ (x1 ≤ 4)) → (∃ n, n ≤ 160 ∧ (tapeAdd (tapeAdd (tapeAdd μ x2) x3) x5) 24 1 = nI n) ∧ K (some (.int ((tapeAdd (tapeAdd (tapeAdd (tapeAdd μ x2) x3) x5) x6) 24 1))) (tapeAdd (tapeAdd (tapeAdd (tapeAdd μ x2) x3) x5) x6)))) ∧ ((¬ (x1 ≤ 2)) → (∃ n, n ≤ 160 ∧ (tapeAdd (tapeAdd μ x2) x3) 24 1 = nI n) ∧ ((x1 ≤ 3) → ((x1 ≤ 4) → K (some (.int ((tapeAdd (tapeAdd (tapeAdd μ x2) x3) x4) 24 1))) (tapeAdd (tapeAdd (tapeAdd μ x2) x3) x4)) ∧ ((¬ (x1 ≤ 4)) → (∃ n, n ≤ 160 ∧ (tapeAdd (tapeAdd (tapeAdd μ x2) x3) x4) 24 1 = nI n) ∧ K (some (.int ((tapeAdd (tapeAdd (tapeAdd (tapeAdd μ x2) x3) x4) x6) 24 1))) (tapeAdd (tapeAdd (tapeAdd (tapeAdd μ x2) x3) x4) x6))) ∧ ((¬ (x1 ≤ 3)) → (∃ n, n ≤ 160 ∧ (tapeAdd (tapeAdd (tapeAdd μ x2) x3) x4) 24 1 = nI n) ∧ ((x1 ≤ 4) → K (some (.int ((tapeAdd (tapeAdd (tapeAdd (tapeAdd μ x2) x3) x4) x5) 24 1))) (tapeAdd (tapeAdd (tapeAdd (tapeAdd μ x2) x3) x4) x5)) ∧ ((¬ (x1 ≤ 4)) → (∃ n, n ≤ 160 ∧ (tapeAdd (tapeAdd (tapeAdd (tapeAdd μ x2) x3) x4) x5) 24 1 = nI n) ∧ K (some (.int ((tapeAdd (tapeAdd (tapeAdd (tapeAdd (tapeAdd μ x2) x3) x4) x5) x6) 24 1))) (tapeAdd (tapeAdd (tapeAdd (tapeAdd (tapeAdd μ x2) x3) x4) x5) x6)))))) ∧ ((¬ (((μ 24 1) + x1) ≤ 160)) → K (some (.int (-4))) μ)) ∧ (((bytesB x2 x3 x4 x5 x6) = false) → K (some (.int (-2))) μ))) : Ev2 G mX7_feed 4 0 [(0, .ref 10), (1, .int x1), (2, .int x2), (3, .int x3), (4, .int x4), (5, .int x5), (6, .int x6)] [] μ K := by
  refine ev_iload_n dX7_feed_0 1 rfl ?_
  refine ev_iconst (v := 1) dX7_feed_1 rfl ?_
  refine ev_iconst (v := 5) dX7_feed_2 rfl ?_
  refine e2_callS (w := .int (bi (inB x1 (1 : Int32) (5 : Int32)))) (μ1 := μ) (as := [.int x1, .int 1, .int 5]) (st := []) ok_X7_isWithin sv_X7_isWithin ml_7_86 dX7_feed_3 rfl rfl (Nat.le_of_ble_eq_true rfl) (Nat.le_of_ble_eq_true rfl) (by decide) (ct_X7_isWithin (x1) (1) (5) μ) ?_
  refine ev_ifeq_bi (tgt := 23) dX7_feed_6 rfl (fun c1 => ?_) (fun c1 => ?_)
  · have h2 := h.1 c1
    refine ev_bipush (v := (-2)) dX7_feed_23 rfl ?_
    exact ev_ireturn dX7_feed_25 rfl True.intro rfl rfl ⟨rfl, h2⟩
  · have h3 := h.2 c1
    refine ev_iload_n dX7_feed_9 2 rfl ?_
    refine ev_iload_n dX7_feed_10 3 rfl ?_
    refine ev_iload dX7_feed_11 4 rfl ?_
    refine ev_iload dX7_feed_13 5 rfl ?_
    refine ev_iload dX7_feed_15 6 rfl ?_
    refine e2_callS (w := .int (bi (bytesB x2 x3 x4 x5 x6))) (μ1 := μ) (as := [.int x2, .int x3, .int x4, .int x5, .int x6]) (st := []) ok_X7_areBytes sv_X7_areBytes ml_7_110 dX7_feed_17 rfl rfl (Nat.le_of_ble_eq_true rfl) (Nat.le_of_ble_eq_true rfl) (by decide) (ct_X7_areBytes (x2) (x3) (x4) (x5) (x6) μ) ?_
    refine ev_ifne_bi (tgt := 26) dX7_feed_20 rfl (fun c4 => ?_) (fun c4 => ?_)
    · have h5 := h3.1 c4
      refine ev_aload_n dX7_feed_26 0 rfl (by decide) ?_
      refine ev_getR' fl_7_36 rfl kd_10 rf_10_5 dX7_feed_27 ?_
      refine ev_getR' fl_7_101 rfl kd_23 rf_23_0 dX7_feed_30 ?_
      refine ev_astore (lv' := [(0, .ref 10), (1, .int x1), (2, .int x2), (3, .int x3), (4, .int x4), (5, .int x5), (6, .int x6), (7, .ref 24)]) dX7_feed_33 (by decide) (by decide) [1, 2, 3, 4, 5, 6, 7, 0] rfl ?_
      refine ev_aload dX7_feed_35 7 rfl (by decide) ?_
      refine ev_getI' (v := (μ 24 1)) fl_7_105 rfl kd_24 rfl dX7_feed_37 ?_
      refine ev_iload_n dX7_feed_40 1 rfl ?_
      refine ev_iadd dX7_feed_41 ?_
      refine ev_sipush (v := 160) dX7_feed_42 rfl ?_
      refine ev_icmp_le (tgt := 51) dX7_feed_45 rfl (fun c7 => ?_) (fun c7 => ?_)
      · have h8 := h5.1 c7
        refine ev_aload dX7_feed_51 7 rfl (by decide) ?_
        refine ev_iload_n dX7_feed_53 2 rfl ?_
        have p10 := h8.1
        have h11 := h8.2
        refine e2_callVv (μ1 := (tapeAdd μ x2)) (a := 24) (as := [.int x2]) (st := []) ok_X5_add vi_X5_add ml_7_114 hcl_5 kd_24 dX7_feed_54 rfl rfl (Nat.le_of_ble_eq_true rfl) (Nat.le_of_ble_eq_true rfl) (by decide) (ct_X5_add (x2) μ p10) ?_
        refine ev_iload_n dX7_feed_57 1 rfl ?_
        refine ev_iconst (v := 1) dX7_feed_58 rfl ?_
        refine ev_icmp_le (tgt := 68) dX7_feed_59 rfl (fun c12 => ?_) (fun c12 => ?_)
        · have h13 := h11.1 c12
          refine ev_iload_n dX7_feed_68 1 rfl ?_
          refine ev_iconst (v := 2) dX7_feed_69 rfl ?_
          refine ev_icmp_le (tgt := 80) dX7_feed_70 rfl (fun c15 => ?_) (fun c15 => ?_)
          · have h16 := h13.1 c15
            refine ev_iload_n dX7_feed_80 1 rfl ?_
            refine ev_iconst (v := 3) dX7_feed_81 rfl ?_
            refine ev_icmp_le (tgt := 92) dX7_feed_82 rfl (fun c18 => ?_) (fun c18 => ?_)
            · have h19 := h16.1 c18
              refine ev_iload_n dX7_feed_92 1 rfl ?_
              refine ev_iconst (v := 4) dX7_feed_93 rfl ?_
              refine ev_icmp_le (tgt := 104) dX7_feed_94 rfl (fun c21 => ?_) (fun c21 => ?_)
              · have h22 := h19.1 c21
                refine ev_aload dX7_feed_104 7 rfl (by decide) ?_
                refine ev_getI' (v := ((tapeAdd μ x2) 24 1)) fl_7_105 rfl kd_24 rfl dX7_feed_106 ?_
                exact ev_ireturn dX7_feed_109 rfl True.intro rfl rfl ⟨rfl, h22⟩
              · have h23 := h19.2 c21
                refine ev_aload dX7_feed_97 7 rfl (by decide) ?_
                refine ev_iload dX7_feed_99 6 rfl ?_
                have p24 := h23.1
                have h25 := h23.2
                refine e2_callVv (μ1 := (tapeAdd (tapeAdd μ x2) x6)) (a := 24) (as := [.int x6]) (st := []) ok_X5_add vi_X5_add ml_7_114 hcl_5 kd_24 dX7_feed_101 rfl rfl (Nat.le_of_ble_eq_true rfl) (Nat.le_of_ble_eq_true rfl) (by decide) (ct_X5_add (x6) (tapeAdd μ x2) p24) ?_
                refine ev_aload dX7_feed_104 7 rfl (by decide) ?_
                refine ev_getI' (v := ((tapeAdd (tapeAdd μ x2) x6) 24 1)) fl_7_105 rfl kd_24 rfl dX7_feed_106 ?_
                exact ev_ireturn dX7_feed_109 rfl True.intro rfl rfl ⟨rfl, h25⟩
            · have h20 := h16.2 c18
              refine ev_aload dX7_feed_85 7 rfl (by decide) ?_
              refine ev_iload dX7_feed_87 5 rfl ?_
              have p26 := h20.1
              have h27 := h20.2
              refine e2_callVv (μ1 := (tapeAdd (tapeAdd μ x2) x5)) (a := 24) (as := [.int x5]) (st := []) ok_X5_add vi_X5_add ml_7_114 hcl_5 kd_24 dX7_feed_89 rfl rfl (Nat.le_of_ble_eq_true rfl) (Nat.le_of_ble_eq_true rfl) (by decide) (ct_X5_add (x5) (tapeAdd μ x2) p26) ?_
              refine ev_iload_n dX7_feed_92 1 rfl ?_
              refine ev_iconst (v := 4) dX7_feed_93 rfl ?_
              refine ev_icmp_le (tgt := 104) dX7_feed_94 rfl (fun c28 => ?_) (fun c28 => ?_)
              · have h29 := h27.1 c28
                refine ev_aload dX7_feed_104 7 rfl (by decide) ?_
                refine ev_getI' (v := ((tapeAdd (tapeAdd μ x2) x5) 24 1)) fl_7_105 rfl kd_24 rfl dX7_feed_106 ?_
                exact ev_ireturn dX7_feed_109 rfl True.intro rfl rfl ⟨rfl, h29⟩
              · have h30 := h27.2 c28
                refine ev_aload dX7_feed_97 7 rfl (by decide) ?_
                refine ev_iload dX7_feed_99 6 rfl ?_
                have p31 := h30.1
                have h32 := h30.2
                refine e2_callVv (μ1 := (tapeAdd (tapeAdd (tapeAdd μ x2) x5) x6)) (a := 24) (as := [.int x6]) (st := []) ok_X5_add vi_X5_add ml_7_114 hcl_5 kd_24 dX7_feed_101 rfl rfl (Nat.le_of_ble_eq_true rfl) (Nat.le_of_ble_eq_true rfl) (by decide) (ct_X5_add (x6) (tapeAdd (tapeAdd μ x2) x5) p31) ?_
                refine ev_aload dX7_feed_104 7 rfl (by decide) ?_
                refine ev_getI' (v := ((tapeAdd (tapeAdd (tapeAdd μ x2) x5) x6) 24 1)) fl_7_105 rfl kd_24 rfl dX7_feed_106 ?_
                exact ev_ireturn dX7_feed_109 rfl True.intro rfl rfl ⟨rfl, h32⟩
          · have h17 := h13.2 c15
            refine ev_aload dX7_feed_73 7 rfl (by decide) ?_
            refine ev_iload dX7_feed_75 4 rfl ?_
            have p33 := h17.1
            have h34 := h17.2
            refine e2_callVv (μ1 := (tapeAdd (tapeAdd μ x2) x4)) (a := 24) (as := [.int x4]) (st := []) ok_X5_add vi_X5_add ml_7_114 hcl_5 kd_24 dX7_feed_77 rfl rfl (Nat.le_of_ble_eq_true rfl) (Nat.le_of_ble_eq_true rfl) (by decide) (ct_X5_add (x4) (tapeAdd μ x2) p33) ?_
            refine ev_iload_n dX7_feed_80 1 rfl ?_
            refine ev_iconst (v := 3) dX7_feed_81 rfl ?_
            refine ev_icmp_le (tgt := 92) dX7_feed_82 rfl (fun c35 => ?_) (fun c35 => ?_)
            · have h36 := h34.1 c35
              refine ev_iload_n dX7_feed_92 1 rfl ?_
              refine ev_iconst (v := 4) dX7_feed_93 rfl ?_
              refine ev_icmp_le (tgt := 104) dX7_feed_94 rfl (fun c38 => ?_) (fun c38 => ?_)
              · have h39 := h36.1 c38
                refine ev_aload dX7_feed_104 7 rfl (by decide) ?_
                refine ev_getI' (v := ((tapeAdd (tapeAdd μ x2) x4) 24 1)) fl_7_105 rfl kd_24 rfl dX7_feed_106 ?_
                exact ev_ireturn dX7_feed_109 rfl True.intro rfl rfl ⟨rfl, h39⟩
              · have h40 := h36.2 c38
                refine ev_aload dX7_feed_97 7 rfl (by decide) ?_
                refine ev_iload dX7_feed_99 6 rfl ?_
                have p41 := h40.1
                have h42 := h40.2
                refine e2_callVv (μ1 := (tapeAdd (tapeAdd (tapeAdd μ x2) x4) x6)) (a := 24) (as := [.int x6]) (st := []) ok_X5_add vi_X5_add ml_7_114 hcl_5 kd_24 dX7_feed_101 rfl rfl (Nat.le_of_ble_eq_true rfl) (Nat.le_of_ble_eq_true rfl) (by decide) (ct_X5_add (x6) (tapeAdd (tapeAdd μ x2) x4) p41) ?_
                refine ev_aload dX7_feed_104 7 rfl (by decide) ?_
                refine ev_getI' (v := ((tapeAdd (tapeAdd (tapeAdd μ x2) x4) x6) 24 1)) fl_7_105 rfl kd_24 rfl dX7_feed_106 ?_
                exact ev_ireturn dX7_feed_109 rfl True.intro rfl rfl ⟨rfl, h42⟩
            · have h37 := h34.2 c35
              refine ev_aload dX7_feed_85 7 rfl (by decide) ?_
              refine ev_iload dX7_feed_87 5 rfl ?_
              have p43 := h37.1
              have h44 := h37.2
              refine e2_callVv (μ1 := (tapeAdd (tapeAdd (tapeAdd μ x2) x4) x5)) (a := 24) (as := [.int x5]) (st := []) ok_X5_add vi_X5_add ml_7_114 hcl_5 kd_24 dX7_feed_89 rfl rfl (Nat.le_of_ble_eq_true rfl) (Nat.le_of_ble_eq_true rfl) (by decide) (ct_X5_add (x5) (tapeAdd (tapeAdd μ x2) x4) p43) ?_
              refine ev_iload_n dX7_feed_92 1 rfl ?_
              refine ev_iconst (v := 4) dX7_feed_93 rfl ?_
              refine ev_icmp_le (tgt := 104) dX7_feed_94 rfl (fun c45 => ?_) (fun c45 => ?_)
              · have h46 := h44.1 c45
                refine ev_aload dX7_feed_104 7 rfl (by decide) ?_
                refine ev_getI' (v := ((tapeAdd (tapeAdd (tapeAdd μ x2) x4) x5) 24 1)) fl_7_105 rfl kd_24 rfl dX7_feed_106 ?_
                exact ev_ireturn dX7_feed_109 rfl True.intro rfl rfl ⟨rfl, h46⟩
              · have h47 := h44.2 c45
                refine ev_aload dX7_feed_97 7 rfl (by decide) ?_
                refine ev_iload dX7_feed_99 6 rfl ?_
                have p48 := h47.1
                have h49 := h47.2
                refine e2_callVv (μ1 := (tapeAdd (tapeAdd (tapeAdd (tapeAdd μ x2) x4) x5) x6)) (a := 24) (as := [.int x6]) (st := []) ok_X5_add vi_X5_add ml_7_114 hcl_5 kd_24 dX7_feed_101 rfl rfl (Nat.le_of_ble_eq_true rfl) (Nat.le_of_ble_eq_true rfl) (by decide) (ct_X5_add (x6) (tapeAdd (tapeAdd (tapeAdd μ x2) x4) x5) p48) ?_
                refine ev_aload dX7_feed_104 7 rfl (by decide) ?_
                refine ev_getI' (v := ((tapeAdd (tapeAdd (tapeAdd (tapeAdd μ x2) x4) x5) x6) 24 1)) fl_7_105 rfl kd_24 rfl dX7_feed_106 ?_
                exact ev_ireturn dX7_feed_109 rfl True.intro rfl rfl ⟨rfl, h49⟩
        · have h14 := h11.2 c12
          refine ev_aload dX7_feed_62 7 rfl (by decide) ?_
          refine ev_iload_n dX7_feed_64 3 rfl ?_
          have p50 := h14.1
          have h51 := h14.2
          refine e2_callVv (μ1 := (tapeAdd (tapeAdd μ x2) x3)) (a := 24) (as := [.int x3]) (st := []) ok_X5_add vi_X5_add ml_7_114 hcl_5 kd_24 dX7_feed_65 rfl rfl (Nat.le_of_ble_eq_true rfl) (Nat.le_of_ble_eq_true rfl) (by decide) (ct_X5_add (x3) (tapeAdd μ x2) p50) ?_
          refine ev_iload_n dX7_feed_68 1 rfl ?_
          refine ev_iconst (v := 2) dX7_feed_69 rfl ?_
          refine ev_icmp_le (tgt := 80) dX7_feed_70 rfl (fun c52 => ?_) (fun c52 => ?_)
          · have h53 := h51.1 c52
            refine ev_iload_n dX7_feed_80 1 rfl ?_
            refine ev_iconst (v := 3) dX7_feed_81 rfl ?_
            refine ev_icmp_le (tgt := 92) dX7_feed_82 rfl (fun c55 => ?_) (fun c55 => ?_)
            · have h56 := h53.1 c55
              refine ev_iload_n dX7_feed_92 1 rfl ?_
              refine ev_iconst (v := 4) dX7_feed_93 rfl ?_
              refine ev_icmp_le (tgt := 104) dX7_feed_94 rfl (fun c58 => ?_) (fun c58 => ?_)
              · have h59 := h56.1 c58
                refine ev_aload dX7_feed_104 7 rfl (by decide) ?_
                refine ev_getI' (v := ((tapeAdd (tapeAdd μ x2) x3) 24 1)) fl_7_105 rfl kd_24 rfl dX7_feed_106 ?_
                exact ev_ireturn dX7_feed_109 rfl True.intro rfl rfl ⟨rfl, h59⟩
              · have h60 := h56.2 c58
                refine ev_aload dX7_feed_97 7 rfl (by decide) ?_
                refine ev_iload dX7_feed_99 6 rfl ?_
                have p61 := h60.1
                have h62 := h60.2
                refine e2_callVv (μ1 := (tapeAdd (tapeAdd (tapeAdd μ x2) x3) x6)) (a := 24) (as := [.int x6]) (st := []) ok_X5_add vi_X5_add ml_7_114 hcl_5 kd_24 dX7_feed_101 rfl rfl (Nat.le_of_ble_eq_true rfl) (Nat.le_of_ble_eq_true rfl) (by decide) (ct_X5_add (x6) (tapeAdd (tapeAdd μ x2) x3) p61) ?_
                refine ev_aload dX7_feed_104 7 rfl (by decide) ?_
                refine ev_getI' (v := ((tapeAdd (tapeAdd (tapeAdd μ x2) x3) x6) 24 1)) fl_7_105 rfl kd_24 rfl dX7_feed_106 ?_
                exact ev_ireturn dX7_feed_109 rfl True.intro rfl rfl ⟨rfl, h62⟩
            · have h57 := h53.2 c55
              refine ev_aload dX7_feed_85 7 rfl (by decide) ?_
              refine ev_iload dX7_feed_87 5 rfl ?_
              have p63 := h57.1
              have h64 := h57.2
              refine e2_callVv (μ1 := (tapeAdd (tapeAdd (tapeAdd μ x2) x3) x5)) (a := 24) (as := [.int x5]) (st := []) ok_X5_add vi_X5_add ml_7_114 hcl_5 kd_24 dX7_feed_89 rfl rfl (Nat.le_of_ble_eq_true rfl) (Nat.le_of_ble_eq_true rfl) (by decide) (ct_X5_add (x5) (tapeAdd (tapeAdd μ x2) x3) p63) ?_
              refine ev_iload_n dX7_feed_92 1 rfl ?_
              refine ev_iconst (v := 4) dX7_feed_93 rfl ?_
              refine ev_icmp_le (tgt := 104) dX7_feed_94 rfl (fun c65 => ?_) (fun c65 => ?_)
              · have h66 := h64.1 c65
                refine ev_aload dX7_feed_104 7 rfl (by decide) ?_
                refine ev_getI' (v := ((tapeAdd (tapeAdd (tapeAdd μ x2) x3) x5) 24 1)) fl_7_105 rfl kd_24 rfl dX7_feed_106 ?_
                exact ev_ireturn dX7_feed_109 rfl True.intro rfl rfl ⟨rfl, h66⟩
              · have h67 := h64.2 c65
                refine ev_aload dX7_feed_97 7 rfl (by decide) ?_
                refine ev_iload dX7_feed_99 6 rfl ?_
                have p68 := h67.1
                have h69 := h67.2
                refine e2_callVv (μ1 := (tapeAdd (tapeAdd (tapeAdd (tapeAdd μ x2) x3) x5) x6)) (a := 24) (as := [.int x6]) (st := []) ok_X5_add vi_X5_add ml_7_114 hcl_5 kd_24 dX7_feed_101 rfl rfl (Nat.le_of_ble_eq_true rfl) (Nat.le_of_ble_eq_true rfl) (by decide) (ct_X5_add (x6) (tapeAdd (tapeAdd (tapeAdd μ x2) x3) x5) p68) ?_
                refine ev_aload dX7_feed_104 7 rfl (by decide) ?_
                refine ev_getI' (v := ((tapeAdd (tapeAdd (tapeAdd (tapeAdd μ x2) x3) x5) x6) 24 1)) fl_7_105 rfl kd_24 rfl dX7_feed_106 ?_
                exact ev_ireturn dX7_feed_109 rfl True.intro rfl rfl ⟨rfl, h69⟩
          · have h54 := h51.2 c52
            refine ev_aload dX7_feed_73 7 rfl (by decide) ?_
            refine ev_iload dX7_feed_75 4 rfl ?_
            have p70 := h54.1
            have h71 := h54.2
            refine e2_callVv (μ1 := (tapeAdd (tapeAdd (tapeAdd μ x2) x3) x4)) (a := 24) (as := [.int x4]) (st := []) ok_X5_add vi_X5_add ml_7_114 hcl_5 kd_24 dX7_feed_77 rfl rfl (Nat.le_of_ble_eq_true rfl) (Nat.le_of_ble_eq_true rfl) (by decide) (ct_X5_add (x4) (tapeAdd (tapeAdd μ x2) x3) p70) ?_
            refine ev_iload_n dX7_feed_80 1 rfl ?_
            refine ev_iconst (v := 3) dX7_feed_81 rfl ?_
            refine ev_icmp_le (tgt := 92) dX7_feed_82 rfl (fun c72 => ?_) (fun c72 => ?_)
            · have h73 := h71.1 c72
              refine ev_iload_n dX7_feed_92 1 rfl ?_
              refine ev_iconst (v := 4) dX7_feed_93 rfl ?_
              refine ev_icmp_le (tgt := 104) dX7_feed_94 rfl (fun c75 => ?_) (fun c75 => ?_)
              · have h76 := h73.1 c75
                refine ev_aload dX7_feed_104 7 rfl (by decide) ?_
                refine ev_getI' (v := ((tapeAdd (tapeAdd (tapeAdd μ x2) x3) x4) 24 1)) fl_7_105 rfl kd_24 rfl dX7_feed_106 ?_
                exact ev_ireturn dX7_feed_109 rfl True.intro rfl rfl ⟨rfl, h76⟩
              · have h77 := h73.2 c75
                refine ev_aload dX7_feed_97 7 rfl (by decide) ?_
                refine ev_iload dX7_feed_99 6 rfl ?_
                have p78 := h77.1
                have h79 := h77.2
                refine e2_callVv (μ1 := (tapeAdd (tapeAdd (tapeAdd (tapeAdd μ x2) x3) x4) x6)) (a := 24) (as := [.int x6]) (st := []) ok_X5_add vi_X5_add ml_7_114 hcl_5 kd_24 dX7_feed_101 rfl rfl (Nat.le_of_ble_eq_true rfl) (Nat.le_of_ble_eq_true rfl) (by decide) (ct_X5_add (x6) (tapeAdd (tapeAdd (tapeAdd μ x2) x3) x4) p78) ?_
                refine ev_aload dX7_feed_104 7 rfl (by decide) ?_
                refine ev_getI' (v := ((tapeAdd (tapeAdd (tapeAdd (tapeAdd μ x2) x3) x4) x6) 24 1)) fl_7_105 rfl kd_24 rfl dX7_feed_106 ?_
                exact ev_ireturn dX7_feed_109 rfl True.intro rfl rfl ⟨rfl, h79⟩
            · have h74 := h71.2 c72
              refine ev_aload dX7_feed_85 7 rfl (by decide) ?_
              refine ev_iload dX7_feed_87 5 rfl ?_
              have p80 := h74.1
              have h81 := h74.2
              refine e2_callVv (μ1 := (tapeAdd (tapeAdd (tapeAdd (tapeAdd μ x2) x3) x4) x5)) (a := 24) (as := [.int x5]) (st := []) ok_X5_add vi_X5_add ml_7_114 hcl_5 kd_24 dX7_feed_89 rfl rfl (Nat.le_of_ble_eq_true rfl) (Nat.le_of_ble_eq_true rfl) (by decide) (ct_X5_add (x5) (tapeAdd (tapeAdd (tapeAdd μ x2) x3) x4) p80) ?_
              refine ev_iload_n dX7_feed_92 1 rfl ?_
              refine ev_iconst (v := 4) dX7_feed_93 rfl ?_
              refine ev_icmp_le (tgt := 104) dX7_feed_94 rfl (fun c82 => ?_) (fun c82 => ?_)
              · have h83 := h81.1 c82
                refine ev_aload dX7_feed_104 7 rfl (by decide) ?_
                refine ev_getI' (v := ((tapeAdd (tapeAdd (tapeAdd (tapeAdd μ x2) x3) x4) x5) 24 1)) fl_7_105 rfl kd_24 rfl dX7_feed_106 ?_
                exact ev_ireturn dX7_feed_109 rfl True.intro rfl rfl ⟨rfl, h83⟩
              · have h84 := h81.2 c82
                refine ev_aload dX7_feed_97 7 rfl (by decide) ?_
                refine ev_iload dX7_feed_99 6 rfl ?_
                have p85 := h84.1
                have h86 := h84.2
                refine e2_callVv (μ1 := (tapeAdd (tapeAdd (tapeAdd (tapeAdd (tapeAdd μ x2) x3) x4) x5) x6)) (a := 24) (as := [.int x6]) (st := []) ok_X5_add vi_X5_add ml_7_114 hcl_5 kd_24 dX7_feed_101 rfl rfl (Nat.le_of_ble_eq_true rfl) (Nat.le_of_ble_eq_true rfl) (by decide) (ct_X5_add (x6) (tapeAdd (tapeAdd (tapeAdd (tapeAdd μ x2) x3) x4) x5) p85) ?_
                refine ev_aload dX7_feed_104 7 rfl (by decide) ?_
                refine ev_getI' (v := ((tapeAdd (tapeAdd (tapeAdd (tapeAdd (tapeAdd μ x2) x3) x4) x5) x6) 24 1)) fl_7_105 rfl kd_24 rfl dX7_feed_106 ?_
                exact ev_ireturn dX7_feed_109 rfl True.intro rfl rfl ⟨rfl, h86⟩
      · have h9 := h5.2 c7
        refine ev_bipush (v := (-4)) dX7_feed_48 rfl ?_
        exact ev_ireturn dX7_feed_50 rfl True.intro rfl rfl ⟨rfl, h9⟩
    · have h6 := h3.2 c4
      refine ev_bipush (v := (-2)) dX7_feed_23 rfl ?_
      exact ev_ireturn dX7_feed_25 rfl True.intro rfl rfl ⟨rfl, h6⟩
theorem pb_X7_feed {G : GW} {α μ : Mem} (hf : WF α) (h : VX α μ) (x1 x2 x3 x4 x5 x6 : Int32) : pubX G mX7_feed 4 [(0, .ref 10), (1, .int x1), (2, .int x2), (3, .int x3), (4, .int x4), (5, .int x5), (6, .int x6)] α μ (.int (sp_feed α x1 x2 x3 x4 x5 x6)) (sq_feed α x1 x2 x3 x4 x5 x6) := by
  have hk := keepM.rf μ
  have hc : μ 24 1 = α 0 4 := h.1.1.2.2.2.2
  refine sg_X7_feed_0 ⟨fun q => ?_, fun q => ⟨fun r => ⟨fun u => ?_, fun u => ?_⟩, fun r => ?_⟩⟩
  · unfold sp_feed sq_feed
    rw [if_neg (by rw [q]; decide), if_neg (by rw [q]; simp)]
    exact ⟨rfl, h, hk⟩
  · rw [hc] at u
    unfold sp_feed sq_feed
    rw [if_pos q, if_pos r, if_pos u, if_pos ⟨q, r, u⟩]
    obtain ⟨b2, b3, b4, b5, b6⟩ := bytes_t r
    have p0 : fedP μ α μ := ⟨hf, h, hk⟩
    have p1 := p0.go b2
    refine ⟨p0.n, ?_⟩
    unfold fedA
    exact ⟨fun c1 => ⟨fun c2 => ⟨fun c3 => ⟨fun c4 => (p1.leaf (by rw [fd_t c1, fd_t c2, fd_t c3, fd_t c4])), fun c4 => ⟨p1.n, ((p1.go b6).leaf (by rw [fd_t c1, fd_t c2, fd_t c3, fd_f c4]))⟩⟩, fun c3 => ⟨p1.n, ⟨fun c4 => ((p1.go b5).leaf (by rw [fd_t c1, fd_t c2, fd_f c3, fd_t c4])), fun c4 => ⟨(p1.go b5).n, (((p1.go b5).go b6).leaf (by rw [fd_t c1, fd_t c2, fd_f c3, fd_f c4]))⟩⟩⟩⟩, fun c2 => ⟨p1.n, ⟨fun c3 => ⟨fun c4 => ((p1.go b4).leaf (by rw [fd_t c1, fd_f c2, fd_t c3, fd_t c4])), fun c4 => ⟨(p1.go b4).n, (((p1.go b4).go b6).leaf (by rw [fd_t c1, fd_f c2, fd_t c3, fd_f c4]))⟩⟩, fun c3 => ⟨(p1.go b4).n, ⟨fun c4 => (((p1.go b4).go b5).leaf (by rw [fd_t c1, fd_f c2, fd_f c3, fd_t c4])), fun c4 => ⟨((p1.go b4).go b5).n, ((((p1.go b4).go b5).go b6).leaf (by rw [fd_t c1, fd_f c2, fd_f c3, fd_f c4]))⟩⟩⟩⟩⟩⟩, fun c1 => ⟨p1.n, ⟨fun c2 => ⟨fun c3 => ⟨fun c4 => ((p1.go b3).leaf (by rw [fd_f c1, fd_t c2, fd_t c3, fd_t c4])), fun c4 => ⟨(p1.go b3).n, (((p1.go b3).go b6).leaf (by rw [fd_f c1, fd_t c2, fd_t c3, fd_f c4]))⟩⟩, fun c3 => ⟨(p1.go b3).n, ⟨fun c4 => (((p1.go b3).go b5).leaf (by rw [fd_f c1, fd_t c2, fd_f c3, fd_t c4])), fun c4 => ⟨((p1.go b3).go b5).n, ((((p1.go b3).go b5).go b6).leaf (by rw [fd_f c1, fd_t c2, fd_f c3, fd_f c4]))⟩⟩⟩⟩, fun c2 => ⟨(p1.go b3).n, ⟨fun c3 => ⟨fun c4 => (((p1.go b3).go b4).leaf (by rw [fd_f c1, fd_f c2, fd_t c3, fd_t c4])), fun c4 => ⟨((p1.go b3).go b4).n, ((((p1.go b3).go b4).go b6).leaf (by rw [fd_f c1, fd_f c2, fd_t c3, fd_f c4]))⟩⟩, fun c3 => ⟨((p1.go b3).go b4).n, ⟨fun c4 => ((((p1.go b3).go b4).go b5).leaf (by rw [fd_f c1, fd_f c2, fd_f c3, fd_t c4])), fun c4 => ⟨(((p1.go b3).go b4).go b5).n, (((((p1.go b3).go b4).go b5).go b6).leaf (by rw [fd_f c1, fd_f c2, fd_f c3, fd_f c4]))⟩⟩⟩⟩⟩⟩⟩⟩
  · rw [hc] at u
    unfold sp_feed sq_feed
    rw [if_pos q, if_pos r, if_neg u, if_neg (fun z => u z.2.2)]
    exact ⟨rfl, h, hk⟩
  · unfold sp_feed sq_feed
    rw [if_pos q, if_neg (by rw [r]; decide), if_neg (by rw [r]; simp)]
    exact ⟨rfl, h, hk⟩
