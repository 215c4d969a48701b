/-! ===== the class: what the law says of a horse is kept in the horse ===== -/
def isTS (b : Nat) : Prop := ∃ j, j < 6 ∧ b = 53 + 4 * j
def farX (μ : Mem) (o : Nat) : Int32 := μ (12 + (μ o 1).toNatClampNeg) (μ o 2).toNatClampNeg
def ltX (μ : Mem) : Nat := 50 + 4 * (μ 10 12).toNatClampNeg
def saidX (μ : Mem) (o p : Nat) : Int32 := boundF (valE (fun k => namedF μ o (nI (6 + k)) (farX μ o)) (codeX μ (ltX μ) p) (lenX μ (ltX μ) p)) (loP p) (hiP p)
def hearOK (μ : Mem) (o : Nat) : Prop := vp_in (μ 10 12) 6 ∧ vp_in (μ o 1) 7 ∧ vp_in (μ o 2) 7 ∧ ∀ p, p < 3 → saysOK μ (ltX μ) (nI p)
/-- only what the law says of the horse o has changed, and the texts' stacks -/
def hearR (μ : Mem) (o : Nat) (μ' : Mem) : Prop := (∀ p, p < 3 → μ' o (6 + p) = saidX μ o p) ∧ (∀ k, (k < 6 ∨ 9 ≤ k) → μ' o k = μ o k) ∧ ∀ b, b ≠ o → ¬ isTS b → μ' b = μ b
theorem stX_row {μ μ' : Mem} {o p : Nat} (h : μ' (o + 2) = μ (o + 2)) : stX μ' o p = stX μ o p := by unfold stX; rw [h]
theorem lenX_row {μ μ' : Mem} {o p : Nat} (h : μ' (o + 2) = μ (o + 2)) : lenX μ' o p = lenX μ o p := by unfold lenX; rw [stX_row h, h]
theorem codeX_row {μ μ' : Mem} {o p : Nat} (h1 : μ' (o + 1) = μ (o + 1)) (h : μ' (o + 2) = μ (o + 2)) : codeX μ' o p = codeX μ o p := by unfold codeX; rw [stX_row h, h1]
theorem saysOK_row {μ μ' : Mem} {o : Nat} {x : Int32} (h1 : μ' (o + 1) = μ (o + 1)) (h2 : μ' (o + 2) = μ (o + 2)) (h : saysOK μ o x) : saysOK μ' o x := by
  obtain ⟨p, a1, a2, a3, a4, a5, a6, a7⟩ := h
  refine ⟨p, a1, a2, ?_, ?_, ?_, ?_, ?_⟩
  · rw [stX_row h2, h2]; exact a3
  · rw [stX_row h2, lenX_row h2, h2]; exact a4
  · rw [stX_row h2, lenX_row h2]; exact a5
  · rw [stX_row h2, lenX_row h2, h1]; exact a6
  · rw [codeX_row h1 h2, lenX_row h2]; exact a7
theorem ltX_tx {μ : Mem} (h : vp_in (μ 10 12) 6) : isTx (ltX μ) := ⟨_, va_in_lt h, rfl⟩
theorem sg_X7_hearLaw_0 {G : GW} {K : Option Value → Mem → Prop} {μ : Mem} {r1 : Nat} (hr1 : isHo r1) (h : (vp_in (μ 10 12) 6) ∧ (vp_in (μ r1 1) 7) ∧ (vp_in (μ r1 2) 7) ∧ ∀ y7 : Int32, y7 = (μ (12 + (μ r1 1).toNatClampNeg) (μ r1 2).toNatClampNeg) → (saysOK μ (50 + 4 * (μ 10 12).toNatClampNeg) (0 : Int32)) ∧ ∀ (z11 : Int32) (μ12 : Mem), (z11 = valE (fun k => namedF μ r1 (nI (6 + k)) y7) (codeX μ (50 + 4 * (μ 10 12).toNatClampNeg) (0 : Int32).toNatClampNeg) (lenX μ (50 + 4 * (μ 10 12).toNatClampNeg) (0 : Int32).toNatClampNeg) ∧ onlyRow μ ((50 + 4 * (μ 10 12).toNatClampNeg) + 3) μ12) → (saysOK (mset μ12 r1 6 (boundF z11 (1 : Int32) (999 : Int32))) (50 + 4 * (μ 10 12).toNatClampNeg) (1 : Int32)) ∧ ∀ (z17 : Int32) (μ18 : Mem), (z17 = valE (fun k => namedF (mset μ12 r1 6 (boundF z11 (1 : Int32) (999 : Int32))) r1 (nI (6 + k)) y7) (codeX (mset μ12 r1 6 (boundF z11 (1 : Int32) (999 : Int32))) (50 + 4 * (μ 10 12).toNatClampNeg) (1 : Int32).toNatClampNeg) (lenX (mset μ12 r1 6 (boundF z11 (1 : Int32) (999 : Int32))) (50 + 4 * (μ 10 12).toNatClampNeg) (1 : Int32).toNatClampNeg) ∧ onlyRow (mset μ12 r1 6 (boundF z11 (1 : Int32) (999 : Int32))) ((50 + 4 * (μ 10 12).toNatClampNeg) + 3) μ18) → (saysOK (mset μ18 r1 7 (boundF z17 (1 : Int32) (999 : Int32))) (50 + 4 * (μ 10 12).toNatClampNeg) (2 : Int32)) ∧ ∀ (z23 : Int32) (μ24 : Mem), (z23 = valE (fun k => namedF (mset μ18 r1 7 (boundF z17 (1 : Int32) (999 : Int32))) r1 (nI (6 + k)) y7) (codeX (mset μ18 r1 7 (boundF z17 (1 : Int32) (999 : Int32))) (50 + 4 * (μ 10 12).toNatClampNeg) (2 : Int32).toNatClampNeg) (lenX (mset μ18 r1 7 (boundF z17 (1 : Int32) (999 : Int32))) (50 + 4 * (μ 10 12).toNatClampNeg) (2 : Int32).toNatClampNeg) ∧ onlyRow (mset μ18 r1 7 (boundF z17 (1 : Int32) (999 : Int32))) ((50 + 4 * (μ 10 12).toNatClampNeg) + 3) μ24) → K none (mset μ24 r1 8 (boundF z23 (0 : Int32) (100 : Int32)))) : Ev2 G mX7_hearLaw 4 0 [(0, .ref 10), (1, .ref r1)] [] μ K := by
  refine ev_aload_n dX7_hearLaw_0 0 rfl (by decide) ?_
  refine ev_getR' fl_7_29 rfl kd_10 rf_10_4 dX7_hearLaw_1 ?_
  refine ev_aload_n dX7_hearLaw_4 0 rfl (by decide) ?_
  refine ev_getI' (v := (μ 10 12)) fl_7_70 rfl kd_10 rfl dX7_hearLaw_5 ?_
  have p1 := h.1
  have h2 := h.2
  refine ev_aaload' (k := 6) kd_22 (by omega) ln_22 p1 (raT p1) dX7_hearLaw_8 ?_
  refine ev_astore_n (lv' := [(0, .ref 10), (1, .ref r1), (2, .ref (50 + 4 * (μ 10 12).toNatClampNeg))]) dX7_hearLaw_9 (nzTx (isT p1)) (by decide) [1, 2, 0] rfl ?_
  refine ev_aload_n dX7_hearLaw_10 0 rfl (by decide) ?_
  refine ev_getR' fl_7_11 rfl kd_10 rf_10_0 dX7_hearLaw_11 ?_
  refine ev_aload_n dX7_hearLaw_14 1 rfl (nzHo hr1) ?_
  refine ev_getI' (v := (μ r1 1)) fl_7_154 rfl (kdHo hr1) rfl dX7_hearLaw_15 ?_
  have p3 := h2.1
  have h4 := h2.2
  refine ev_aaload' (k := 4) kd_11 (by omega) ln_11 p3 (raW p3) dX7_hearLaw_18 ?_
  refine ev_aload_n dX7_hearLaw_19 1 rfl (nzHo hr1) ?_
  refine ev_getI' (v := (μ r1 2)) fl_7_157 rfl (kdHo hr1) rfl dX7_hearLaw_20 ?_
  have p5 := h4.1
  have h6 := h4.2
  refine ev_iaload' (v := (μ (12 + (μ r1 1).toNatClampNeg) (μ r1 2).toNatClampNeg)) (kdRw (isW p3)) (lnRw (isW p3)) p5 rfl dX7_hearLaw_23 ?_
  refine ev_top (fun y7 ey7 => ?_)
  have h8 := h6 y7 ey7
  refine ev_istore_n (lv' := [(0, .ref 10), (1, .ref r1), (2, .ref (50 + 4 * (μ 10 12).toNatClampNeg)), (3, .int y7)]) dX7_hearLaw_24 (by decide) [1, 2, 3, 0] rfl ?_
  refine ev_aload_n dX7_hearLaw_25 1 rfl (nzHo hr1) ?_
  refine ev_aload_n dX7_hearLaw_26 2 rfl (nzTx (isT p1)) ?_
  refine ev_iconst (v := 0) dX7_hearLaw_27 rfl ?_
  refine ev_aload_n dX7_hearLaw_28 1 rfl (nzHo hr1) ?_
  refine ev_iload_n dX7_hearLaw_29 3 rfl ?_
  have p9 := h8.1
  have h10 := h8.2
  refine e2_callVr (Rl := fun z11 μ12 => z11 = valE (fun k => namedF μ r1 (nI (6 + k)) y7) (codeX μ (50 + 4 * (μ 10 12).toNatClampNeg) (0 : Int32).toNatClampNeg) (lenX μ (50 + 4 * (μ 10 12).toNatClampNeg) (0 : Int32).toNatClampNeg) ∧ onlyRow μ ((50 + 4 * (μ 10 12).toNatClampNeg) + 3) μ12) (a := (50 + 4 * (μ 10 12).toNatClampNeg)) (as := [.int 0, .ref r1, .int y7]) (st := [.ref r1]) ok_X6_says vi_X6_says ml_7_311 hcl_6 (kdTx (isT p1)) dX7_hearLaw_30 rfl rfl (Nat.le_of_ble_eq_true rfl) (Nat.le_of_ble_eq_true rfl) (by decide) (ct_X6_says (50 + 4 * (μ 10 12).toNatClampNeg) (isT p1) (0) r1 hr1 (y7) μ p9) (fun z11 μ12 r13 => ?_)
  have h14 := h10 z11 μ12 r13
  refine ev_iconst (v := 1) dX7_hearLaw_33 rfl ?_
  refine ev_sipush (v := 999) dX7_hearLaw_34 rfl ?_
  refine e2_callS (w := .int (boundF z11 (1 : Int32) (999 : Int32))) (μ1 := μ12) (as := [.int z11, .int 1, .int 999]) (st := [.ref r1]) ok_X7_bounded sv_X7_bounded ml_7_315 dX7_hearLaw_37 rfl rfl (Nat.le_of_ble_eq_true rfl) (Nat.le_of_ble_eq_true rfl) (by decide) (ct_X7_bounded (z11) (1) (999) μ12) ?_
  refine ev_putI fl_7_131 ⟨rfl, rfl, rfl⟩ (fun r hr => by cases hr; rfl) (kdHo hr1) dX7_hearLaw_40 ?_
  refine ev_aload_n dX7_hearLaw_43 1 rfl (nzHo hr1) ?_
  refine ev_aload_n dX7_hearLaw_44 2 rfl (nzTx (isT p1)) ?_
  refine ev_iconst (v := 1) dX7_hearLaw_45 rfl ?_
  refine ev_aload_n dX7_hearLaw_46 1 rfl (nzHo hr1) ?_
  refine ev_iload_n dX7_hearLaw_47 3 rfl ?_
  have p15 := h14.1
  have h16 := h14.2
  refine e2_callVr (Rl := fun z17 μ18 => z17 = valE (fun k => namedF (mset μ12 r1 6 (boundF z11 (1 : Int32) (999 : Int32))) r1 (nI (6 + k)) y7) (codeX (mset μ12 r1 6 (boundF z11 (1 : Int32) (999 : Int32))) (50 + 4 * (μ 10 12).toNatClampNeg) (1 : Int32).toNatClampNeg) (lenX (mset μ12 r1 6 (boundF z11 (1 : Int32) (999 : Int32))) (50 + 4 * (μ 10 12).toNatClampNeg) (1 : Int32).toNatClampNeg) ∧ onlyRow (mset μ12 r1 6 (boundF z11 (1 : Int32) (999 : Int32))) ((50 + 4 * (μ 10 12).toNatClampNeg) + 3) μ18) (a := (50 + 4 * (μ 10 12).toNatClampNeg)) (as := [.int 1, .ref r1, .int y7]) (st := [.ref r1]) ok_X6_says vi_X6_says ml_7_311 hcl_6 (kdTx (isT p1)) dX7_hearLaw_48 rfl rfl (Nat.le_of_ble_eq_true rfl) (Nat.le_of_ble_eq_true rfl) (by decide) (ct_X6_says (50 + 4 * (μ 10 12).toNatClampNeg) (isT p1) (1) r1 hr1 (y7) (mset μ12 r1 6 (boundF z11 (1 : Int32) (999 : Int32))) p15) (fun z17 μ18 r19 => ?_)
  have h20 := h16 z17 μ18 r19
  refine ev_iconst (v := 1) dX7_hearLaw_51 rfl ?_
  refine ev_sipush (v := 999) dX7_hearLaw_52 rfl ?_
  refine e2_callS (w := .int (boundF z17 (1 : Int32) (999 : Int32))) (μ1 := μ18) (as := [.int z17, .int 1, .int 999]) (st := [.ref r1]) ok_X7_bounded sv_X7_bounded ml_7_315 dX7_hearLaw_55 rfl rfl (Nat.le_of_ble_eq_true rfl) (Nat.le_of_ble_eq_true rfl) (by decide) (ct_X7_bounded (z17) (1) (999) μ18) ?_
  refine ev_putI fl_7_134 ⟨rfl, rfl, rfl⟩ (fun r hr => by cases hr; rfl) (kdHo hr1) dX7_hearLaw_58 ?_
  refine ev_aload_n dX7_hearLaw_61 1 rfl (nzHo hr1) ?_
  refine ev_aload_n dX7_hearLaw_62 2 rfl (nzTx (isT p1)) ?_
  refine ev_iconst (v := 2) dX7_hearLaw_63 rfl ?_
  refine ev_aload_n dX7_hearLaw_64 1 rfl (nzHo hr1) ?_
  refine ev_iload_n dX7_hearLaw_65 3 rfl ?_
  have p21 := h20.1
  have h22 := h20.2
  refine e2_callVr (Rl := fun z23 μ24 => z23 = valE (fun k => namedF (mset μ18 r1 7 (boundF z17 (1 : Int32) (999 : Int32))) r1 (nI (6 + k)) y7) (codeX (mset μ18 r1 7 (boundF z17 (1 : Int32) (999 : Int32))) (50 + 4 * (μ 10 12).toNatClampNeg) (2 : Int32).toNatClampNeg) (lenX (mset μ18 r1 7 (boundF z17 (1 : Int32) (999 : Int32))) (50 + 4 * (μ 10 12).toNatClampNeg) (2 : Int32).toNatClampNeg) ∧ onlyRow (mset μ18 r1 7 (boundF z17 (1 : Int32) (999 : Int32))) ((50 + 4 * (μ 10 12).toNatClampNeg) + 3) μ24) (a := (50 + 4 * (μ 10 12).toNatClampNeg)) (as := [.int 2, .ref r1, .int y7]) (st := [.ref r1]) ok_X6_says vi_X6_says ml_7_311 hcl_6 (kdTx (isT p1)) dX7_hearLaw_66 rfl rfl (Nat.le_of_ble_eq_true rfl) (Nat.le_of_ble_eq_true rfl) (by decide) (ct_X6_says (50 + 4 * (μ 10 12).toNatClampNeg) (isT p1) (2) r1 hr1 (y7) (mset μ18 r1 7 (boundF z17 (1 : Int32) (999 : Int32))) p21) (fun z23 μ24 r25 => ?_)
  have h26 := h22 z23 μ24 r25
  refine ev_iconst (v := 0) dX7_hearLaw_69 rfl ?_
  refine ev_bipush (v := 100) dX7_hearLaw_70 rfl ?_
  refine e2_callS (w := .int (boundF z23 (0 : Int32) (100 : Int32))) (μ1 := μ24) (as := [.int z23, .int 0, .int 100]) (st := [.ref r1]) ok_X7_bounded sv_X7_bounded ml_7_315 dX7_hearLaw_72 rfl rfl (Nat.le_of_ble_eq_true rfl) (Nat.le_of_ble_eq_true rfl) (by decide) (ct_X7_bounded (z23) (0) (100) μ24) ?_
  refine ev_putI fl_7_137 ⟨rfl, rfl, rfl⟩ (fun r hr => by cases hr; rfl) (kdHo hr1) dX7_hearLaw_75 ?_
  exact ev_return dX7_hearLaw_78 rfl rfl rfl ⟨rfl, h26⟩
/-- between the three questions: the horse's own fields, all other rows but the texts' stacks -/
def hearM (μ : Mem) (o : Nat) (ν : Mem) : Prop := (∀ k, (k < 6 ∨ 9 ≤ k) → ν o k = μ o k) ∧ ∀ b, b ≠ o → ¬ isTS b → ν b = μ b
theorem hearM.step {μ ν ν' : Mem} {o a k : Nat} {x : Int32} (h : hearM μ o ν) (ha : isTS a) (hk : 6 ≤ k ∧ k < 9) (ho : isHo o) (h2 : onlyRow ν a ν') : hearM μ o (mset ν' o k x) := by
  have hoa : o ≠ a := by
    obtain ⟨j, hj, rfl⟩ := ha
    have := ho.2
    omega
  refine ⟨fun k' hk' => ?_, fun b hb hn => ?_⟩
  · rw [mset_other (by omega), h2 o hoa]
    exact h.1 k' hk'
  · have hba : b ≠ a := fun e => hn (e ▸ ha)
    rw [← h.2 b hb hn, ← h2 b hba]
    funext k'
    exact mset_other (fun z => hb z.1)
theorem tx_notTS {o : Nat} (h : isTx o) : ¬ isTS o ∧ ¬ isTS (o + 1) ∧ ¬ isTS (o + 2) := by
  obtain ⟨j, hj, rfl⟩ := h
  refine ⟨?_, ?_, ?_⟩ <;> (rintro ⟨i, hi, e⟩; omega)
theorem namedF_same {μ ν : Mem} {o : Nat} (h : ∀ k, k < 6 → ν o k = μ o k) (x y : Int32) : namedF ν o x y = namedF μ o x y := by
  unfold namedF
  rw [h 1 (by omega), h 2 (by omega), h 3 (by omega), h 4 (by omega), h 5 (by omega)]
theorem hearM.said {μ ν : Mem} {o t : Nat} (h : hearM μ o ν) (ho : isHo o) (ht : isTx t) (p : Nat) (y : Int32) : saysOK μ t (nI p) → saysOK ν t (nI p) := by
  have hl := isTx_lo ht
  have hh := ho.2
  have hn := tx_notTS ht
  exact saysOK_row (h.2 _ (by omega) hn.2.1) (h.2 _ (by omega) hn.2.2)
theorem hearM.val {μ ν : Mem} {o t : Nat} (h : hearM μ o ν) (ho : isHo o) (ht : isTx t) (p : Nat) (y : Int32) : valE (fun k => namedF ν o (nI (6 + k)) y) (codeX ν t p) (lenX ν t p) = valE (fun k => namedF μ o (nI (6 + k)) y) (codeX μ t p) (lenX μ t p) := by
  have hl := isTx_lo ht
  have hh := ho.2
  have hn := tx_notTS ht
  rw [codeX_row (h.2 _ (by omega) hn.2.1) (h.2 _ (by omega) hn.2.2), lenX_row (h.2 _ (by omega) hn.2.2)]
  congr 1
  funext k
  exact namedF_same (fun k hk => h.1 k (Or.inl hk)) _ _
theorem ct_X7_hearLaw {G : GW} (o : Nat) (ho : isHo o) (μ : Mem) (hp : hearOK μ o) : Ev2 G mX7_hearLaw 4 0 [(0, .ref 10), (1, .ref o)] [] μ (fun v μ' => v = none ∧ hearR μ o μ') := by
  obtain ⟨h1, h2, h3, h4⟩ := hp
  have hlo := ho.1
  have hhi := ho.2
  have htx := ltX_tx h1
  have htl := isTx_lo htx
  have hts : isTS (ltX μ + 3) := by
    obtain ⟨j, hj, e⟩ := htx
    exact ⟨j, hj, by omega⟩
  have hots : o ≠ ltX μ + 3 := by omega
  have H0 : hearM μ o μ := ⟨fun _ _ => rfl, fun _ _ _ => rfl⟩
  refine sg_X7_hearLaw_0 ho ⟨h1, h2, h3, ?_⟩
  intro y hy
  have hy : y = farX μ o := hy
  subst hy
  refine ⟨h4 0 (by omega), ?_⟩
  intro x1 μ1 r1
  obtain ⟨r1, f1⟩ := r1
  have H1 := H0.step (k := 6) (x := boundF x1 1 999) hts (by omega) ho f1
  refine ⟨H1.said ho htx 1 0 (h4 1 (by omega)), ?_⟩
  intro x2 μ2 r2
  obtain ⟨r2, f2⟩ := r2
  have H2 := H1.step (k := 7) (x := boundF x2 1 999) hts (by omega) ho f2
  refine ⟨H2.said ho htx 2 0 (h4 2 (by omega)), ?_⟩
  intro x3 μ3 r3
  obtain ⟨r3, f3⟩ := r3
  have H3 := H2.step (k := 8) (x := boundF x3 0 100) hts (by omega) ho f3
  have e2 : x2 = valE (fun k => namedF μ o (nI (6 + k)) (farX μ o)) (codeX μ (ltX μ) 1) (lenX μ (ltX μ) 1) := r2.trans (H1.val ho htx 1 _)
  have e3 : x3 = valE (fun k => namedF μ o (nI (6 + k)) (farX μ o)) (codeX μ (ltX μ) 2) (lenX μ (ltX μ) 2) := r3.trans (H2.val ho htx 2 _)
  refine ⟨rfl, fun p hp => ?_, H3.1, H3.2⟩
  rcases (show p = 0 ∨ p = 1 ∨ p = 2 by omega) with rfl | rfl | rfl
  · rw [mset_other (by omega), f3 o hots, mset_other (by omega), f2 o hots, mset_same, r1]
    rfl
  · rw [mset_other (by omega), f3 o hots, mset_same, e2]
    rfl
  · rw [mset_same, e3]
    rfl
/-- all but what is kept of the law, and the texts' stacks -/
def hearS (μ ν : Mem) : Prop := (∀ b, 43 ≤ b → b ≤ 49 → ∀ k, (k < 6 ∨ 9 ≤ k) → ν b k = μ b k) ∧ ∀ b, ¬ (43 ≤ b ∧ b ≤ 49) → ¬ isTS b → ν b = μ b
theorem hearS.rf (μ : Mem) : hearS μ μ := ⟨fun _ _ _ _ _ => rfl, fun _ _ _ => rfl⟩
theorem hearS.tr {μ ν ξ : Mem} (h1 : hearS μ ν) (h2 : hearS ν ξ) : hearS μ ξ := ⟨fun b p q k hk => (h2.1 b p q k hk).trans (h1.1 b p q k hk), fun b p q => (h2.2 b p q).trans (h1.2 b p q)⟩
theorem hearR.S {μ ν : Mem} {o : Nat} (ho : isHo o) (h : hearR μ o ν) : hearS μ ν := by
  refine ⟨fun b p q k hk => ?_, fun b p q => h.2.2 b (fun e => p (e ▸ ho)) q⟩
  by_cases e : b = o
  · subst e
    exact h.2.1 k hk
  · rw [h.2.2 b e]
    rintro ⟨j, hj, e2⟩
    omega
theorem not_TS {b : Nat} (h : b < 53) : ¬ isTS b := by
  rintro ⟨j, hj, e⟩
  omega
theorem hearS.row {μ ν : Mem} (h : hearS μ ν) {b : Nat} (hb : b < 43) : ν b = μ b := h.2 b (by omega) (not_TS (by omega))
theorem hearS.lt {μ ν : Mem} (h : hearS μ ν) : ltX ν = ltX μ := by unfold ltX; rw [h.row (by omega)]
theorem hearS.far {μ ν : Mem} (h : hearS μ ν) {o : Nat} (ho : isHo o) (hv : vp_in (μ o 1) 7) : farX ν o = farX μ o := by
  unfold farX
  have := va_in_lt hv
  rw [h.1 o ho.1 ho.2 1 (by omega), h.1 o ho.1 ho.2 2 (by omega), h.row (by omega)]
theorem hearS.txt {μ ν : Mem} (h : hearS μ ν) {t : Nat} (ht : isTx t) : ν (t + 1) = μ (t + 1) ∧ ν (t + 2) = μ (t + 2) := by
  have hl := isTx_lo ht
  have hn := tx_notTS ht
  exact ⟨h.2 _ (by omega) hn.2.1, h.2 _ (by omega) hn.2.2⟩
theorem hearS.said {μ ν : Mem} (h : hearS μ ν) {o : Nat} (ho : isHo o) (hp : hearOK μ o) (p : Nat) : saidX ν o p = saidX μ o p := by
  have htx := ltX_tx hp.1
  obtain ⟨e1, e2⟩ := h.txt htx
  unfold saidX
  rw [h.lt, h.far ho hp.2.1, codeX_row e1 e2, lenX_row e2]
  congr 2
  funext k
  exact namedF_same (fun k hk => h.1 o ho.1 ho.2 k (Or.inl hk)) _ _
theorem hearS.ok {μ ν : Mem} (h : hearS μ ν) {o : Nat} (ho : isHo o) (hp : hearOK μ o) : hearOK ν o := by
  have htx := ltX_tx hp.1
  obtain ⟨e1, e2⟩ := h.txt htx
  obtain ⟨a1, a2, a3, a4⟩ := hp
  refine ⟨by rw [h.row (by omega)]; exact a1, by rw [h.1 o ho.1 ho.2 1 (by omega)]; exact a2, by rw [h.1 o ho.1 ho.2 2 (by omega)]; exact a3, fun p hp => ?_⟩
  rw [h.lt]
  exact saysOK_row e1 e2 (a4 p hp)
def hearAllOK (μ : Mem) : Prop := ∃ n, n ≤ 7 ∧ μ 10 9 = nI n ∧ ∀ h, h < n → hearOK μ (43 + h)
def hearAllR (μ ν : Mem) : Prop := hearS μ ν ∧ ∀ h, nI h < μ 10 9 → h < 7 → ∀ p, p < 3 → ν (43 + h) (6 + p) = saidX μ (43 + h) p
theorem isHo_43 {h : Nat} (hh : h < 7) : isHo (43 + h) := ⟨by omega, by omega⟩
theorem sg_X7_hearLawAll_0 {G : GW} {K : Option Value → Mem → Prop} {μ : Mem}   (h : Ev2 G mX7_hearLawAll 5 2 [(0, .ref 10), (1, .int 0)] [] μ K) : Ev2 G mX7_hearLawAll 5 0 [(0, .ref 10)] [] μ K := by
  refine ev_iconst (v := 0) dX7_hearLawAll_0 rfl ?_
  refine ev_istore_n (lv' := [(0, .ref 10), (1, .int 0)]) dX7_hearLawAll_1 (by decide) [1, 0] rfl ?_
  exact h
theorem sg_X7_hearLawAll_2 {G : GW} {K : Option Value → Mem → Prop} {μ : Mem} {x1 : Int32}  (h : (((μ 10 9) ≤ x1) → K none μ) ∧ ((¬ ((μ 10 9) ≤ x1)) → (vp_in x1 7) ∧ (hearOK μ (43 + x1.toNatClampNeg)) ∧ ∀ μ8 : Mem, (hearR μ (43 + x1.toNatClampNeg) μ8) → Ev2 G mX7_hearLawAll 5 2 [(0, .ref 10), (1, .int (x1 + 1))] [] μ8 K)) : Ev2 G mX7_hearLawAll 5 2 [(0, .ref 10), (1, .int x1)] [] μ K := by
  refine ev_iload_n dX7_hearLawAll_2 1 rfl ?_
  refine ev_aload_n dX7_hearLawAll_3 0 rfl (by decide) ?_
  refine ev_getI' (v := (μ 10 9)) fl_7_60 rfl kd_10 rfl dX7_hearLawAll_4 ?_
  refine ev_icmp_ge (tgt := 26) dX7_hearLawAll_7 rfl (fun c1 => ?_) (fun c1 => ?_)
  · have h2 := h.1 c1
    exact ev_return dX7_hearLawAll_26 rfl rfl rfl ⟨rfl, h2⟩
  · have h3 := h.2 c1
    refine ev_aload_n dX7_hearLawAll_10 0 rfl (by decide) ?_
    refine ev_aload_n dX7_hearLawAll_11 0 rfl (by decide) ?_
    refine ev_getR' fl_7_16 rfl kd_10 rf_10_1 dX7_hearLawAll_12 ?_
    refine ev_iload_n dX7_hearLawAll_15 1 rfl ?_
    have p4 := h3.1
    have h5 := h3.2
    refine ev_aaload' (k := 5) kd_19 (by omega) ln_19 p4 (raH p4) dX7_hearLawAll_16 ?_
    have p6 := h5.1
    have h7 := h5.2
    refine e2_callVrv (Rl := fun μ8 => hearR μ (43 + x1.toNatClampNeg) μ8) (a := 10) (as := [.ref (43 + x1.toNatClampNeg)]) (st := []) ok_X7_hearLaw vi_X7_hearLaw ml_7_144 hcl_7 kd_10 dX7_hearLawAll_17 rfl rfl (Nat.le_of_ble_eq_true rfl) (Nat.le_of_ble_eq_true rfl) (by decide) (ct_X7_hearLaw (43 + x1.toNatClampNeg) (isH p4) μ p6) (fun μ8 r9 => ?_)
    have h10 := h7 μ8 r9
    refine ev_iinc (v := (x1 + 1)) (lv' := [(0, .ref 10), (1, .int (x1 + 1))]) dX7_hearLawAll_20 1 rfl rfl (by decide) [1, 0] rfl ?_
    refine ev_goto (tgt := 2) dX7_hearLawAll_23 rfl ?_
    exact h10
theorem lp_X7_hearLawAll {G : GW} (μ : Mem) {n : Nat} (hn : n ≤ 7) (hc : μ 10 9 = nI n) (hok : ∀ h, h < n → hearOK μ (43 + h)) : ∀ j i (ν : Mem), i + j = n → hearS μ ν → (∀ h, h < i → ∀ p, p < 3 → ν (43 + h) (6 + p) = saidX μ (43 + h) p) →
    Ev2 G mX7_hearLawAll 5 2 [(0, .ref 10), (1, .int (nI i))] [] ν (fun v μ' => v = none ∧ hearAllR μ μ') := by
  intro j
  induction j with
  | zero =>
    intro i ν hi hs hsd
    obtain rfl : i = n := by omega
    refine sg_X7_hearLawAll_2 ⟨fun _ => ⟨rfl, hs, fun h hh h7 => ?_⟩, fun c => ?_⟩
    · rw [hc] at hh
      exact hsd h ((nI_ltI (by omega) (by omega)).mp hh)
    · rw [hs.row (by omega), hc] at c
      exact absurd (nI_le (Nat.le_refl i) (by omega)) c
  | succ j ih =>
    intro i ν hi hs hsd
    have hho : isHo (43 + i) := isHo_43 (by omega)
    have hoki := hok i (by omega)
    refine sg_X7_hearLawAll_2 ⟨fun c => ?_, fun _ => ⟨vp_nI (by omega) (by omega), ?_, fun μ8 hr => ?_⟩⟩
    · rw [hs.row (by omega), hc] at c
      exact absurd c (nI_ge (by omega) (by omega))
    · rw [ix_nI (by omega)]
      exact hs.ok hho hoki
    · rw [ix_nI (by omega)] at hr
      have h := ih (i + 1) μ8 (by omega) (hs.tr (hr.S hho)) (fun h hh p hp => ?_)
      · rw [nI_1]
        exact h
      · by_cases e : h = i
        · subst e
          rw [hr.1 p hp]
          exact hs.said hho hoki p
        · rw [hr.2.2 (43 + h) (by omega) (not_TS (by omega))]
          exact hsd h (by omega) p hp
theorem ct_X7_hearLawAll {G : GW} (μ : Mem) (hp : hearAllOK μ) : Ev2 G mX7_hearLawAll 5 0 [(0, .ref 10)] [] μ (fun v μ' => v = none ∧ hearAllR μ μ') := by
  obtain ⟨n, hn, hc, hok⟩ := hp
  exact sg_X7_hearLawAll_0 (lp_X7_hearLawAll μ hn hc hok n 0 μ (by omega) (hearS.rf μ) (fun h hh => absurd hh (Nat.not_lt_zero h)))
def walkM (μ : Mem) (a b : Nat) (v : Int32) : Mem := mset (mset μ (12 + a) b v) (12 + b) a v
theorem sg_X7_setWalk_0 {G : GW} {K : Option Value → Mem → Prop} {μ : Mem} {x1 x2 x3 : Int32}  (h : (vp_in x1 7) ∧ (vp_in x2 7) ∧ (vp_in x2 7) ∧ (vp_in x1 7) ∧ (hearAllOK (mset (mset μ (12 + x1.toNatClampNeg) x2.toNatClampNeg x3) (12 + x2.toNatClampNeg) x1.toNatClampNeg x3)) ∧ ∀ μ11 : Mem, (hearAllR (mset (mset μ (12 + x1.toNatClampNeg) x2.toNatClampNeg x3) (12 + x2.toNatClampNeg) x1.toNatClampNeg x3) μ11) → K none μ11) : Ev2 G mX7_setWalk 6 0 [(0, .ref 10), (1, .int x1), (2, .int x2), (3, .int x3)] [] μ K := by
  refine ev_aload_n dX7_setWalk_0 0 rfl (by decide) ?_
  refine ev_getR' fl_7_11 rfl kd_10 rf_10_0 dX7_setWalk_1 ?_
  refine ev_iload_n dX7_setWalk_4 1 rfl ?_
  have p1 := h.1
  have h2 := h.2
  refine ev_aaload' (k := 4) kd_11 (by omega) ln_11 p1 (raW p1) dX7_setWalk_5 ?_
  refine ev_iload_n dX7_setWalk_6 2 rfl ?_
  refine ev_iload_n dX7_setWalk_7 3 rfl ?_
  have p3 := h2.1
  have h4 := h2.2
  refine ev_iastore' (j := x2.toNatClampNeg) (kdRw (isW p1)) (lnRw (isW p1)) p3 rfl dX7_setWalk_8 ?_
  refine ev_aload_n dX7_setWalk_9 0 rfl (by decide) ?_
  refine ev_getR' fl_7_11 rfl kd_10 rf_10_0 dX7_setWalk_10 ?_
  refine ev_iload_n dX7_setWalk_13 2 rfl ?_
  have p5 := h4.1
  have h6 := h4.2
  refine ev_aaload' (k := 4) kd_11 (by omega) ln_11 p5 (raW p5) dX7_setWalk_14 ?_
  refine ev_iload_n dX7_setWalk_15 1 rfl ?_
  refine ev_iload_n dX7_setWalk_16 3 rfl ?_
  have p7 := h6.1
  have h8 := h6.2
  refine ev_iastore' (j := x1.toNatClampNeg) (kdRw (isW p5)) (lnRw (isW p5)) p7 rfl dX7_setWalk_17 ?_
  refine ev_aload_n dX7_setWalk_18 0 rfl (by decide) ?_
  have p9 := h8.1
  have h10 := h8.2
  refine e2_callVrv (Rl := fun μ11 => hearAllR (mset (mset μ (12 + x1.toNatClampNeg) x2.toNatClampNeg x3) (12 + x2.toNatClampNeg) x1.toNatClampNeg x3) μ11) (a := 10) (as := []) (st := []) ok_X7_hearLawAll vi_X7_hearLawAll ml_7_308 hcl_7 kd_10 dX7_setWalk_19 rfl rfl (Nat.le_of_ble_eq_true rfl) (Nat.le_of_ble_eq_true rfl) (by decide) (ct_X7_hearLawAll (mset (mset μ (12 + x1.toNatClampNeg) x2.toNatClampNeg x3) (12 + x2.toNatClampNeg) x1.toNatClampNeg x3) p9) (fun μ11 r12 => ?_)
  have h13 := h10 μ11 r12
  exact ev_return dX7_setWalk_22 rfl rfl rfl ⟨rfl, h13⟩
theorem ct_X7_setWalk {G : GW} (x1 x2 x3 : Int32) (μ : Mem) (hp : vp_in x1 7 ∧ vp_in x2 7 ∧ hearAllOK (walkM μ x1.toNatClampNeg x2.toNatClampNeg x3)) : Ev2 G mX7_setWalk 6 0 [(0, .ref 10), (1, .int x1), (2, .int x2), (3, .int x3)] [] μ (fun v μ' => v = none ∧ hearAllR (walkM μ x1.toNatClampNeg x2.toNatClampNeg x3) μ') :=
  sg_X7_setWalk_0 ⟨hp.1, hp.2.1, hp.2.1, hp.1, hp.2.2, fun _ h => ⟨rfl, h⟩⟩
theorem sg_X7_setFrom_0 {G : GW} {K : Option Value → Mem → Prop} {μ : Mem} {r1 : Nat} {x2 : Int32} (hr1 : isHo r1) (h : (hearOK (mset μ r1 1 x2) r1) ∧ ∀ μ3 : Mem, (hearR (mset μ r1 1 x2) r1 μ3) → K none μ3) : Ev2 G mX7_setFrom 5 0 [(0, .ref 10), (1, .ref r1), (2, .int x2)] [] μ K := by
  refine ev_aload_n dX7_setFrom_0 1 rfl (nzHo hr1) ?_
  refine ev_iload_n dX7_setFrom_1 2 rfl ?_
  refine ev_putI fl_7_154 ⟨rfl, rfl, rfl⟩ (fun r hr => by cases hr; rfl) (kdHo hr1) dX7_setFrom_2 ?_
  refine ev_aload_n dX7_setFrom_5 0 rfl (by decide) ?_
  refine ev_aload_n dX7_setFrom_6 1 rfl (nzHo hr1) ?_
  have p1 := h.1
  have h2 := h.2
  refine e2_callVrv (Rl := fun μ3 => hearR (mset μ r1 1 x2) r1 μ3) (a := 10) (as := [.ref r1]) (st := []) ok_X7_hearLaw vi_X7_hearLaw ml_7_144 hcl_7 kd_10 dX7_setFrom_7 rfl rfl (Nat.le_of_ble_eq_true rfl) (Nat.le_of_ble_eq_true rfl) (by decide) (ct_X7_hearLaw r1 hr1 (mset μ r1 1 x2) p1) (fun μ3 r4 => ?_)
  have h5 := h2 μ3 r4
  exact ev_return dX7_setFrom_10 rfl rfl rfl ⟨rfl, h5⟩
theorem ct_X7_setFrom {G : GW} (o : Nat) (ho : isHo o) (x2 : Int32) (μ : Mem) (hp : hearOK (mset μ o 1 x2) o) : Ev2 G mX7_setFrom 5 0 [(0, .ref 10), (1, .ref o), (2, .int x2)] [] μ (fun v μ' => v = none ∧ hearR (mset μ o 1 x2) o μ') :=
  sg_X7_setFrom_0 ho ⟨hp, fun _ h => ⟨rfl, h⟩⟩
theorem sg_X7_setLaw_0 {G : GW} {K : Option Value → Mem → Prop} {μ : Mem} {x1 : Int32}  (h : (hearAllOK (mset μ 10 12 x1)) ∧ ∀ μ3 : Mem, (hearAllR (mset μ 10 12 x1) μ3) → K none μ3) : Ev2 G mX7_setLaw 6 0 [(0, .ref 10), (1, .int x1)] [] μ K := by
  refine ev_aload_n dX7_setLaw_0 0 rfl (by decide) ?_
  refine ev_iload_n dX7_setLaw_1 1 rfl ?_
  refine ev_putI fl_7_70 ⟨rfl, rfl, rfl⟩ (fun r hr => by cases hr; rfl) kd_10 dX7_setLaw_2 ?_
  refine ev_aload_n dX7_setLaw_5 0 rfl (by decide) ?_
  have p1 := h.1
  have h2 := h.2
  refine e2_callVrv (Rl := fun μ3 => hearAllR (mset μ 10 12 x1) μ3) (a := 10) (as := []) (st := []) ok_X7_hearLawAll vi_X7_hearLawAll ml_7_308 hcl_7 kd_10 dX7_setLaw_6 rfl rfl (Nat.le_of_ble_eq_true rfl) (Nat.le_of_ble_eq_true rfl) (by decide) (ct_X7_hearLawAll (mset μ 10 12 x1) p1) (fun μ3 r4 => ?_)
  have h5 := h2 μ3 r4
  exact ev_return dX7_setLaw_9 rfl rfl rfl ⟨rfl, h5⟩
theorem ct_X7_setLaw {G : GW} (x1 : Int32) (μ : Mem) (hp : hearAllOK (mset μ 10 12 x1)) : Ev2 G mX7_setLaw 6 0 [(0, .ref 10), (1, .int x1)] [] μ (fun v μ' => v = none ∧ hearAllR (mset μ 10 12 x1) μ') :=
  sg_X7_setLaw_0 ⟨hp, fun _ h => ⟨rfl, h⟩⟩
