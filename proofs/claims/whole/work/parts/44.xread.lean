/-! ===== the class's reader ===== -/
def failM (μ : Mem) : Mem := mset (if μ 23 2 = -1 then mset μ 23 2 (μ 24 3) else μ) 23 1 22
def expM (μ : Mem) (w : Int32) : Mem := if μ 23 1 = w then mset (nxM μ (nN μ) (skp (μ 25) (nN μ) (pN μ))) 23 1 (tkK (μ 25) (nN μ) (skp (μ 25) (nN μ) (pN μ))) else failM μ
theorem sg_X2_fail_0 {G : GW} {K : Option Value → Mem → Prop} {μ : Mem}   (h : ((¬ (μ 23 2) = (-1)) → K none (mset μ 23 1 22)) ∧ (((μ 23 2) = (-1)) → K none (mset (mset μ 23 2 (μ 24 3)) 23 1 22))) : Ev2 G mX2_fail 1 0 [(0, .ref 23)] [] μ K := by
  refine ev_aload_n dX2_fail_0 0 rfl (by decide) ?_
  refine ev_getI' (v := (μ 23 2)) fl_2_22 rfl kd_23 rfl dX2_fail_1 ?_
  refine ev_iconst (v := (-1)) dX2_fail_4 rfl ?_
  refine ev_icmp_ne (tgt := 19) dX2_fail_5 rfl (fun c1 => ?_) (fun c1 => ?_)
  · have h2 := h.1 c1
    refine ev_aload_n dX2_fail_19 0 rfl (by decide) ?_
    refine ev_bipush (v := 22) dX2_fail_20 rfl ?_
    refine ev_putI fl_2_18 ⟨rfl, rfl, rfl⟩ (fun r hr => by cases hr; rfl) kd_23 dX2_fail_22 ?_
    exact ev_return dX2_fail_25 rfl rfl rfl ⟨rfl, h2⟩
  · have h3 := h.2 c1
    refine ev_aload_n dX2_fail_8 0 rfl (by decide) ?_
    refine ev_aload_n dX2_fail_9 0 rfl (by decide) ?_
    refine ev_getR' fl_2_12 rfl kd_23 rf_23_0 dX2_fail_10 ?_
    refine ev_getI' (v := (μ 24 3)) fl_2_51 rfl kd_24 rfl dX2_fail_13 ?_
    refine ev_putI fl_2_22 ⟨rfl, rfl, rfl⟩ (fun r hr => by cases hr; rfl) kd_23 dX2_fail_16 ?_
    refine ev_aload_n dX2_fail_19 0 rfl (by decide) ?_
    refine ev_bipush (v := 22) dX2_fail_20 rfl ?_
    refine ev_putI fl_2_18 ⟨rfl, rfl, rfl⟩ (fun r hr => by cases hr; rfl) kd_23 dX2_fail_22 ?_
    exact ev_return dX2_fail_25 rfl rfl rfl ⟨rfl, h3⟩
theorem ct_X2_fail {G : GW} (μ : Mem) : Ev2 G mX2_fail 1 0 [(0, .ref 23)] [] μ (fun v μ' => v = none ∧ μ' = failM μ) := by
  unfold failM
  refine sg_X2_fail_0 ⟨fun c => ⟨rfl, ?_⟩, fun c => ⟨rfl, ?_⟩⟩
  · rw [if_neg c]
  · rw [if_pos c]
theorem sg_X2_expect_0 {G : GW} {K : Option Value → Mem → Prop} {μ : Mem} {x1 : Int32}  (h : ((¬ (μ 23 1) = x1) → K none (failM μ)) ∧ (((μ 23 1) = x1) → (∃ n p, tpP n p μ) ∧ K none (mset (nxM μ (nN μ) (skp (μ 25) (nN μ) (pN μ))) 23 1 (tkK (μ 25) (nN μ) (skp (μ 25) (nN μ) (pN μ)))))) : Ev2 G mX2_expect 12 0 [(0, .ref 23), (1, .int x1)] [] μ K := by
  refine ev_aload_n dX2_expect_0 0 rfl (by decide) ?_
  refine ev_getI' (v := (μ 23 1)) fl_2_18 rfl kd_23 rfl dX2_expect_1 ?_
  refine ev_iload_n dX2_expect_4 1 rfl ?_
  refine ev_icmp_ne (tgt := 22) dX2_expect_5 rfl (fun c1 => ?_) (fun c1 => ?_)
  · have h2 := h.1 c1
    refine ev_aload_n dX2_expect_22 0 rfl (by decide) ?_
    refine e2_callVv (μ1 := (failM μ)) (a := 23) (as := []) (st := []) ok_X2_fail vi_X2_fail ml_2_48 hcl_2 kd_23 dX2_expect_23 rfl rfl (Nat.le_of_ble_eq_true rfl) (Nat.le_of_ble_eq_true rfl) (by decide) (ct_X2_fail μ) ?_
    exact ev_return dX2_expect_26 rfl rfl rfl ⟨rfl, h2⟩
  · have h3 := h.2 c1
    refine ev_aload_n dX2_expect_8 0 rfl (by decide) ?_
    refine ev_aload_n dX2_expect_9 0 rfl (by decide) ?_
    refine ev_getR' fl_2_12 rfl kd_23 rf_23_0 dX2_expect_10 ?_
    have p4 := h3.1
    have h5 := h3.2
    refine e2_callV (w := .int (tkK (μ 25) (nN μ) (skp (μ 25) (nN μ) (pN μ)))) (μ1 := (nxM μ (nN μ) (skp (μ 25) (nN μ) (pN μ)))) (a := 24) (as := []) (st := [.ref 23]) ok_X5_next vi_X5_next ml_2_33 hcl_5 kd_24 dX2_expect_13 rfl rfl (Nat.le_of_ble_eq_true rfl) (Nat.le_of_ble_eq_true rfl) (by decide) (ct_X5_next μ p4) ?_
    refine ev_putI fl_2_18 ⟨rfl, rfl, rfl⟩ (fun r hr => by cases hr; rfl) kd_23 dX2_expect_16 ?_
    refine ev_goto (tgt := 26) dX2_expect_19 rfl ?_
    exact ev_return dX2_expect_26 rfl rfl rfl ⟨rfl, h5⟩
theorem ct_X2_expect {G : GW} (x1 : Int32) (μ : Mem) (hp : ∃ n p, tpP n p μ) : Ev2 G mX2_expect 12 0 [(0, .ref 23), (1, .int x1)] [] μ (fun v μ' => v = none ∧ μ' = expM μ x1) := by
  unfold expM
  refine sg_X2_expect_0 ⟨fun c => ⟨rfl, ?_⟩, fun c => ⟨hp, rfl, ?_⟩⟩
  · rw [if_neg c]
  · rw [if_pos c]
/-- the reader and the tape show where one reads -/
def RdP (f : Nat → Int32) (n : Nat) (s : Bool × Nat) (μ : Mem) : Prop := n ≤ 160 ∧ (∃ p, tpP n p μ) ∧ μ 25 = f ∧ μ 23 1 = tkS (tkT f n) s ∧ (s.1 = true → μ 24 2 = nI (plT f n (s.2 + 1)) ∧ μ 24 3 = nI (stT f n s.2) ∧ μ 23 2 = -1 ∧ (tkT f n s.2 = 20 → μ 24 4 = nvT f n s.2)) ∧ (s.1 = false → μ 23 2 = nI (stT f n s.2))
theorem RdP.tp {f : Nat → Int32} {n : Nat} {s : Bool × Nat} {μ : Mem} (h : RdP f n s μ) : ∃ n p, tpP n p μ := ⟨n, h.2.1⟩
theorem RdP.row {f : Nat → Int32} {n : Nat} {s : Bool × Nat} {μ ν : Mem} (h : RdP f n s μ) (e3 : ν 23 = μ 23) (e4 : ν 24 = μ 24) (e5 : ν 25 = μ 25) : RdP f n s ν := by
  obtain ⟨h0, ⟨p, t1, t2, t3, t4⟩, h2, h3, h4, h5⟩ := h
  refine ⟨h0, ⟨p, t1, t2, ?_, ?_⟩, ?_, ?_, ?_, ?_⟩
  · rw [e4]; exact t3
  · rw [e4]; exact t4
  · rw [e5]; exact h2
  · rw [e3]; exact h3
  · rw [e3, e4]; exact h4
  · rw [e3]; exact h5
/-- the reader, the tape's place and the text's end alone have changed -/
def FrM (t m : Nat) (μ ν : Mem) : Prop := (∀ a, a ≠ 23 → a ≠ 24 → a ≠ t → a ≠ t + 1 → ν a = μ a) ∧ (∀ k, k ≠ 2 → k ≠ 3 → k ≠ 4 → ν 24 k = μ 24 k) ∧ (∀ k, k ≠ 3 → ν t k = μ t k) ∧ ∀ k, k < m → ν (t + 1) k = μ (t + 1) k
theorem FrM.rf (t m : Nat) (μ : Mem) : FrM t m μ μ := ⟨fun _ _ _ _ _ => rfl, fun _ _ _ _ => rfl, fun _ _ => rfl, fun _ _ => rfl⟩
theorem FrM.tr {t m m' : Nat} {μ ν ξ : Mem} (h1 : FrM t m μ ν) (hm : m ≤ m') (h2 : FrM t m' ν ξ) : FrM t m μ ξ := ⟨fun a q1 q2 q3 q4 => (h2.1 a q1 q2 q3 q4).trans (h1.1 a q1 q2 q3 q4), fun k q1 q2 q3 => (h2.2.1 k q1 q2 q3).trans (h1.2.1 k q1 q2 q3), fun k q => (h2.2.2.1 k q).trans (h1.2.2.1 k q), fun k q => (h2.2.2.2 k (by omega)).trans (h1.2.2.2 k q)⟩
theorem expM_fr {μ : Mem} {w : Int32} {t m : Nat} (ht : isTx t) : FrM t m μ (expM μ w) ∧ expM μ w t = μ t ∧ expM μ w (t + 1) = μ (t + 1) := by
  have hl := isTx_lo ht
  have e : ∀ a, a ≠ 23 → a ≠ 24 → expM μ w a = μ a := fun a h1 h2 => by
    unfold expM failM nxM
    split
    · rw [mset_ne h1, mset_ne h2, mset_ne h2, mset_ne h2]
    · rw [mset_ne h1]
      split
      · rw [mset_ne h1]
      · rfl
  refine ⟨⟨fun a h1 h2 _ _ => e a h1 h2, fun k h1 h2 h3 => ?_, fun k _ => by rw [e t (by omega) (by omega)], fun k _ => by rw [e (t + 1) (by omega) (by omega)]⟩, e t (by omega) (by omega), e (t + 1) (by omega) (by omega)⟩
  unfold expM failM nxM
  split
  · rw [mset_other (by omega), mset_other (by omega), mset_other (by omega), mset_other (by omega)]
  · rw [mset_other (by omega)]
    split
    · rw [mset_other (by omega)]
    · rfl
theorem failM_fr {μ : Mem} {t m : Nat} (ht : isTx t) : FrM t m μ (failM μ) ∧ failM μ t = μ t ∧ failM μ (t + 1) = μ (t + 1) := by
  have hl := isTx_lo ht
  have e : ∀ a, a ≠ 23 → failM μ a = μ a := fun a h1 => by
    unfold failM
    rw [mset_ne h1]
    split
    · rw [mset_ne h1]
    · rfl
  exact ⟨⟨fun a h1 _ _ _ => e a h1, fun k _ _ _ => by rw [e 24 (by omega)], fun k _ => by rw [e t (by omega)], fun k _ => by rw [e (t + 1) (by omega)]⟩, e t (by omega), e (t + 1) (by omega)⟩
theorem RdP.fail {f : Nat → Int32} {n : Nat} {s : Bool × Nat} {μ : Mem} (h : RdP f n s μ) : RdP f n (false, s.2) (failM μ) := by
  obtain ⟨h0, ⟨p, t1, t2, t3, t4⟩, h2, h3, h4, h5⟩ := h
  have e : ∀ a, a ≠ 23 → failM μ a = μ a := fun a h1 => by
    unfold failM
    rw [mset_ne h1]
    split
    · rw [mset_ne h1]
    · rfl
  refine ⟨h0, ⟨p, t1, t2, ?_, ?_⟩, ?_, ?_, fun q => absurd q (by simp), fun _ => ?_⟩
  · rw [e 24 (by omega)]; exact t3
  · rw [e 24 (by omega)]; exact t4
  · rw [e 25 (by omega)]; exact h2
  · rw [tkS_f]
    exact mset_same
  · have hs := (stT_le f n s.2).2
    unfold failM
    rw [mset_other (by omega)]
    by_cases c : s.1 = true
    · obtain ⟨g1, g2, g3, -⟩ := h4 c
      rw [if_pos g3, mset_same, g2]
    · have g := h5 (by simpa using c)
      rw [if_neg, g]
      rw [g]
      intro q
      have q2 := congrArg Int32.toInt q
      rw [nI_toInt (by omega)] at q2
      have : (-1 : Int32).toInt = -1 := by decide
      omega
theorem RdP.exp {f : Nat → Int32} {n : Nat} {s : Bool × Nat} {μ : Mem} {w : Int32} (h : RdP f n s μ) (hw : w ≠ 22) : RdP f n (exS (tkT f n) s w) (expM μ w) := by
  unfold exS expM
  by_cases c : tkS (tkT f n) s = w
  · have ha := tkS_alive (c ▸ hw)
    obtain ⟨h0, ⟨p, t1, t2, t3, t4⟩, h2, h3, h4, h5⟩ := h
    obtain ⟨g1, g2, g3, g4⟩ := h4 ha
    have hpl := plT_le f n (s.2 + 1)
    rw [if_pos c, if_pos (h3.trans c)]
    have e1 : nN μ = n := by unfold nN; rw [t3, ix_nI (by omega)]
    have e2 : pN μ = plT f n (s.2 + 1) := by unfold pN; rw [g1, ix_nI (by omega)]
    rw [e1, e2, h2]
    have es : skp f n (plT f n (s.2 + 1)) = stT f n (s.2 + 1) := rfl
    rw [es]
    have hE := tkE_le (f := f) (stT_le f n (s.2 + 1)).2
    have n1 : nxM μ n (stT f n (s.2 + 1)) 24 1 = nI n := by
      unfold nxM
      rw [mset_other (by omega), mset_other (by omega), mset_other (by omega)]
      exact t3
    have n2 : nxM μ n (stT f n (s.2 + 1)) 24 2 = nI (plT f n (s.2 + 2)) := by
      unfold nxM
      rw [mset_same, h2]
      rfl
    have n3 : nxM μ n (stT f n (s.2 + 1)) 24 3 = nI (stT f n (s.2 + 1)) := by
      unfold nxM
      rw [mset_other (by omega), mset_other (by omega), mset_same]
    have n4 : nxM μ n (stT f n (s.2 + 1)) 24 4 = tkV f n (stT f n (s.2 + 1)) (μ 24 4) := by
      unfold nxM
      rw [mset_other (by omega), mset_same, h2]
    have n25 : nxM μ n (stT f n (s.2 + 1)) 25 = f := by
      unfold nxM
      rw [mset_ne (by omega), mset_ne (by omega), mset_ne (by omega)]
      exact h2
    have n23 : nxM μ n (stT f n (s.2 + 1)) 23 2 = -1 := by
      unfold nxM
      rw [mset_other (by omega), mset_other (by omega), mset_other (by omega)]
      exact g3
    refine ⟨h0, ⟨plT f n (s.2 + 2), t1, plT_le f n _, ?_, ?_⟩, ?_, ?_, fun _ => ⟨?_, ?_, ?_, fun q => ?_⟩, fun q => ?_⟩
    · rw [mset_other (by omega)]; exact n1
    · rw [mset_other (by omega)]; exact n2
    · rw [mset_ne (by omega)]; exact n25
    · rw [mset_same, ha, tkS_t]
      rfl
    · rw [mset_other (by omega)]; exact n2
    · rw [mset_other (by omega)]; exact n3
    · rw [mset_other (by omega)]; exact n23
    · rw [mset_other (by omega), n4]
      have q := tk20 (f := f) (n := n) (s := stT f n (s.2 + 1)) q
      unfold tkV
      rw [if_pos q]
      rfl
    · rw [ha] at q
      cases q
  · rw [if_neg c, if_neg (fun q => c (h.2.2.2.1.symm.trans q))]
    exact h.fail
theorem textAdd_fr {μ : Mem} {t m m' : Nat} {v : Int32} (ht : isTx t) (hm : μ t 3 = nI m') (h160 : m' ≤ 160) (hmm : m ≤ m') : FrM t m μ (textAdd μ t v) ∧ (∃ m2, m' ≤ m2 ∧ m2 ≤ 160 ∧ textAdd μ t v t 3 = nI m2) ∧ textAdd μ t v 23 = μ 23 ∧ textAdd μ t v 24 = μ 24 ∧ textAdd μ t v 25 = μ 25 ∧ (m' < 160 → textAdd μ t v t 3 = nI (m' + 1) ∧ textAdd μ t v (t + 1) m' = v) := by
  have hl := isTx_lo ht
  unfold textAdd
  rw [hm]
  by_cases c : (160 : Int32) ≤ nI m'
  · rw [if_pos c]
    have h2 : 160 ≤ m' := (nI_leI (a := 160) (b := m') (by omega) (by omega)).mp c
    exact ⟨FrM.rf t m μ, ⟨m', Nat.le_refl _, h160, hm⟩, rfl, rfl, rfl, fun q => by omega⟩
  · rw [if_neg c]
    have h2 : m' < 160 := lt160 h160 c
    rw [ix_nI (by omega), nI_1]
    refine ⟨⟨fun a q1 q2 q3 q4 => ?_, fun k _ _ _ => ?_, fun k q => ?_, fun k q => ?_⟩, ⟨m' + 1, by omega, by omega, mset_same⟩, ?_, ?_, ?_, fun _ => ⟨mset_same, ?_⟩⟩
    · rw [mset_ne q3, mset_ne q4]
    · rw [mset_other (by omega), mset_other (by omega)]
    · rw [mset_other (by omega), mset_other (by omega)]
    · rw [mset_other (by omega), mset_other (by omega)]
    · rw [mset_ne (by omega), mset_ne (by omega)]
    · rw [mset_ne (by omega), mset_ne (by omega)]
    · rw [mset_ne (by omega), mset_ne (by omega)]
    · rw [mset_other (by omega), mset_same]
/-- what a reading begins with -/
def rdA (f : Nat → Int32) (n t k m : Nat) (s : Bool × Nat) (μ : Mem) : Prop := RdP f n s μ ∧ μ t 3 = nI m ∧ m ≤ 160 ∧ (s.1 = true → m + k ≤ s.2 ∧ s.2 ≤ plT f n s.2)
/-- and ends with -/
def rdC (f : Nat → Int32) (n t k m : Nat) (s s' : Bool × Nat) (c : List Int32) (μ ν : Mem) : Prop := RdP f n s' ν ∧ FrM t m μ ν ∧ (∃ m', m ≤ m' ∧ m' ≤ 160 ∧ ν t 3 = nI m') ∧ (s'.1 = true → s.1 = true ∧ s.2 ≤ s'.2 ∧ m + c.length + k ≤ s'.2 ∧ s'.2 ≤ plT f n s'.2 ∧ ν t 3 = nI (m + c.length) ∧ ∀ i, i < c.length → ν (t + 1) (m + i) = c.getD i 0)
theorem rdA.tp {f : Nat → Int32} {n t k m : Nat} {s : Bool × Nat} {μ : Mem} (h : rdA f n t k m s μ) : ∃ n p, tpP n p μ := h.1.tp
theorem rdA.sz {f : Nat → Int32} {n t k m : Nat} {s : Bool × Nat} {μ : Mem} (h : rdA f n t k m s μ) : ∃ n, n ≤ 160 ∧ μ t 3 = nI n := ⟨m, h.2.2.1, h.2.1⟩
theorem rdA.tk {f : Nat → Int32} {n t k m : Nat} {s : Bool × Nat} {μ : Mem} (h : rdA f n t k m s μ) : μ 23 1 = tkS (tkT f n) s := h.1.2.2.2.1
theorem rdC.tp {f : Nat → Int32} {n t k m : Nat} {s s' : Bool × Nat} {c : List Int32} {μ ν : Mem} (h : rdC f n t k m s s' c μ ν) : ∃ n p, tpP n p ν := h.1.tp
theorem rdC.sz {f : Nat → Int32} {n t k m : Nat} {s s' : Bool × Nat} {c : List Int32} {μ ν : Mem} (h : rdC f n t k m s s' c μ ν) : ∃ n, n ≤ 160 ∧ ν t 3 = nI n := by
  obtain ⟨m', -, h1, h2⟩ := h.2.2.1
  exact ⟨m', h1, h2⟩
theorem rdC.tk {f : Nat → Int32} {n t k m : Nat} {s s' : Bool × Nat} {c : List Int32} {μ ν : Mem} (h : rdC f n t k m s s' c μ ν) : ν 23 1 = tkS (tkT f n) s' := h.1.2.2.2.1
/-- where a reading ends another one begins -/
theorem rdC.on {f : Nat → Int32} {n t k m : Nat} {s s' : Bool × Nat} {c : List Int32} {μ ν : Mem} (h : rdC f n t k m s s' c μ ν) : ∃ m', m ≤ m' ∧ (s'.1 = true → m' = m + c.length) ∧ rdA f n t k m' s' ν := by
  obtain ⟨h1, h2, ⟨m', a1, a2, a3⟩, h4⟩ := h
  by_cases c1 : s'.1 = true
  · obtain ⟨b1, b2, b3, b4, b5, b6⟩ := h4 c1
    have : m + c.length ≤ 160 := by
      have := plT_le f n s'.2
      have := h1.1
      omega
    exact ⟨m + c.length, by omega, fun _ => rfl, h1, b5, this, fun _ => ⟨by omega, b4⟩⟩
  · exact ⟨m', a1, fun q => absurd q c1, h1, a3, a2, fun q => absurd q c1⟩
theorem gD_l {c1 c2 : List Int32} {i : Nat} (h : i < c1.length) : (c1 ++ c2).getD i 0 = c1.getD i 0 := by simp [List.getD, List.getElem?_append_left h]
theorem gD_r {c1 c2 : List Int32} {i : Nat} (h : c1.length ≤ i) : (c1 ++ c2).getD i 0 = c2.getD (i - c1.length) 0 := by simp [List.getD, List.getElem?_append_right h]
theorem rdC.join {f : Nat → Int32} {n t k m m1 : Nat} {s s1 s2 : Bool × Nat} {c1 c2 : List Int32} {μ ν ξ : Mem} (h1 : rdC f n t k m s s1 c1 μ ν) (hm : m ≤ m1) (e : s1.1 = true → m1 = m + c1.length) (h2 : rdC f n t k m1 s1 s2 c2 ν ξ) : rdC f n t k m s s2 (c1 ++ c2) μ ξ := by
  obtain ⟨a1, a2, a3, a4⟩ := h1
  obtain ⟨b1, b2, ⟨m', b3, b3', b3''⟩, b4⟩ := h2
  refine ⟨b1, a2.tr hm b2, ⟨m', by omega, b3', b3''⟩, fun q => ?_⟩
  obtain ⟨q1, q2, q3, q4, q5, q6⟩ := b4 q
  obtain ⟨p1, p2, p3, p4, p5, p6⟩ := a4 q1
  have e := e q1
  subst e
  refine ⟨p1, by omega, ?_, q4, ?_, fun i hi => ?_⟩
  · rw [List.length_append]; omega
  · rw [List.length_append, ← Nat.add_assoc]; exact q5
  · rw [List.length_append] at hi
    by_cases c : i < c1.length
    · rw [b2.2.2.2 (m + i) (by omega), p6 i c, gD_l c]
    · rw [gD_r (by omega), show m + i = m + c1.length + (i - c1.length) by omega]
      exact q6 _ (by omega)
theorem rdC.add {f : Nat → Int32} {n t k m : Nat} {s s1 : Bool × Nat} {c : List Int32} {μ ν : Mem} (ht : isTx t) (h : rdC f n t (k + 1) m s s1 c μ ν) (v : Int32) : rdC f n t k m s s1 (c ++ [v]) μ (textAdd ν t v) := by
  obtain ⟨a1, a2, ⟨m', a3, a3', a3''⟩, a4⟩ := h
  obtain ⟨f1, ⟨m2, f2, f2', f2''⟩, f3, f4, f5, f6⟩ := textAdd_fr (v := v) ht a3'' a3' a3
  refine ⟨a1.row f3 f4 f5, a2.tr (Nat.le_refl m) f1, ⟨m2, by omega, f2', f2''⟩, fun q => ?_⟩
  obtain ⟨p1, p2, p3, p4, p5, p6⟩ := a4 q
  have hn := a1.1
  have hpl := plT_le f n s1.2
  have em : m' = m + c.length := (nI_eq (by omega) (by omega)).mp (a3''.symm.trans p5)
  subst em
  obtain ⟨g1, g2⟩ := f6 (by omega)
  refine ⟨p1, p2, ?_, p4, ?_, fun i hi => ?_⟩
  · simp only [List.length_append, List.length_cons, List.length_nil]; omega
  · simp only [List.length_append, List.length_cons, List.length_nil]
    exact g1
  · simp only [List.length_append, List.length_cons, List.length_nil] at hi
    by_cases c1 : i < c.length
    · rw [gD_l c1, ← p6 i c1]
      have f7 := (textAdd_fr (m := m + c.length) (v := v) ht a3'' a3' (Nat.le_refl _)).1.2.2.2
      exact f7 (m + i) (by omega)
    · have : i = c.length := by omega
      subst this
      rw [g2]
      simp
theorem rdC.pre {f : Nat → Int32} {n t k m : Nat} {s s0 s1 : Bool × Nat} {c : List Int32} {μ μ0 ν : Mem} (h : rdC f n t k m s0 s1 c μ0 ν) (hf : FrM t m μ μ0) (hs : s0.1 = true → s.1 = true ∧ s.2 ≤ s0.2) : rdC f n t k m s s1 c μ ν := by
  obtain ⟨a1, a2, a3, a4⟩ := h
  refine ⟨a1, hf.tr (Nat.le_refl m) a2, a3, fun q => ?_⟩
  obtain ⟨p1, p2, p3⟩ := a4 q
  obtain ⟨q1, q2⟩ := hs p1
  exact ⟨q1, by omega, p3⟩
theorem rdA.nil {f : Nat → Int32} {n t k m : Nat} {s : Bool × Nat} {μ : Mem} (h : rdA f n t k m s μ) : rdC f n t k m s s [] μ μ := ⟨h.1, FrM.rf t m μ, ⟨m, Nat.le_refl m, h.2.2.1, h.2.1⟩, fun q => ⟨q, Nat.le_refl _, (h.2.2.2 q).1, (h.2.2.2 q).2, h.2.1, fun i hi => absurd hi (Nat.not_lt_zero i)⟩⟩
theorem rdA.fail {f : Nat → Int32} {n t k m : Nat} {s : Bool × Nat} {μ : Mem} (ht : isTx t) (h : rdA f n t k m s μ) : rdC f n t k m s (false, s.2) [] μ (failM μ) := by
  obtain ⟨e1, e2, e3⟩ := failM_fr (μ := μ) (m := m) ht
  exact ⟨h.1.fail, e1, ⟨m, Nat.le_refl m, h.2.2.1, by rw [e2]; exact h.2.1⟩, fun q => absurd q (by simp)⟩
/-- a token is taken that stands there -/
theorem rdA.take {f : Nat → Int32} {n t k m : Nat} {s : Bool × Nat} {μ : Mem} (ht : isTx t) (h : rdA f n t k m s μ) {w : Int32} (hw : tkS (tkT f n) s = w) (h22 : w ≠ 22) (h21 : w ≠ 21) : s.1 = true ∧ m + k < 160 ∧ s.2 < 160 ∧ rdA f n t (k + 1) m (s.1, s.2 + 1) (expM μ w) ∧ FrM t m μ (expM μ w) := by
  have ha := tkS_alive (hw ▸ h22)
  obtain ⟨e1, e2, e3⟩ := expM_fr (μ := μ) (w := w) (m := m) ht
  obtain ⟨h1, h2, h3, h4⟩ := h
  obtain ⟨g1, g2⟩ := h4 ha
  have hx := h1.exp h22
  have ex : exS (tkT f n) s w = (s.1, s.2 + 1) := if_pos hw
  rw [ex] at hx
  have hk : tkT f n s.2 ≠ 21 := by
    have : tkS (tkT f n) s = tkT f n s.2 := if_pos ha
    rw [← this, hw]
    exact h21
  obtain ⟨l1, l2⟩ := tkT_lt hk
  have hn := h1.1
  have := (stT_le f n s.2).1
  have := plT_le f n (s.2 + 1)
  exact ⟨ha, by omega, by omega, ⟨hx, by rw [e2]; exact h2, h3, fun _ => ⟨by show m + (k + 1) ≤ s.2 + 1; omega, by show s.2 + 1 ≤ plT f n (s.2 + 1); omega⟩⟩, e1⟩
theorem rdC.exp {f : Nat → Int32} {n t k m : Nat} {s s1 : Bool × Nat} {c : List Int32} {μ ν : Mem} (ht : isTx t) (h : rdC f n t k m s s1 c μ ν) {w : Int32} (h22 : w ≠ 22) (h21 : w ≠ 21) : rdC f n t k m s (exS (tkT f n) s1 w) c μ (expM ν w) := by
  obtain ⟨e1, e2, e3⟩ := expM_fr (μ := ν) (w := w) (m := m) ht
  obtain ⟨a1, a2, ⟨m', a3, a3', a3''⟩, a4⟩ := h
  refine ⟨a1.exp h22, a2.tr (Nat.le_refl m) e1, ⟨m', a3, a3', by rw [e2]; exact a3''⟩, fun q => ?_⟩
  unfold exS at q ⊢
  by_cases c1 : tkS (tkT f n) s1 = w
  · rw [if_pos c1] at q ⊢
    obtain ⟨p1, p2, p3, p4, p5, p6⟩ := a4 q
    have hk : tkT f n s1.2 ≠ 21 := by
      have : tkS (tkT f n) s1 = tkT f n s1.2 := if_pos q
      rw [← this, c1]
      exact h21
    obtain ⟨l1, l2⟩ := tkT_lt hk
    exact ⟨p1, by show s.2 ≤ s1.2 + 1; omega, by show _ ≤ s1.2 + 1; omega, by show s1.2 + 1 ≤ plT f n (s1.2 + 1); omega, by rw [e2]; exact p5, fun i hi => by rw [e3]; exact p6 i hi⟩
  · rw [if_neg c1] at q
    exact absurd q (by simp)
/-- the contract of a level -/
def MC (G : GW) (M : MK) (F L : Nat) : Prop := ∀ (f : Nat → Int32) (n t k m o d : Nat) (s : Bool × Nat) (r : (Bool × Nat) × List Int32) (μ : Mem), isTx t → o ≤ 5 → 20 + 8 * (5 - o) + L ≤ d → rd (tkT f n) (nvT f n) F L o s = some r → rdA f n t k m s μ → Ev2 G M d 0 [(0, .ref 23), (1, .ref t), (2, .int (nI o))] [] μ (fun v ν => v = none ∧ rdC f n t k m s r.1 r.2 μ ν)
/-- a contract at one call -/
theorem MC.at {G : GW} {M : MK} {F L : Nat} (h : MC G M F L) {f : Nat → Int32} {n t k m o d : Nat} {s : Bool × Nat} {r : (Bool × Nat) × List Int32} {μ : Mem} (ho : o ≤ 5) (hd : 20 + 8 * (5 - o) + L ≤ d) (hr : rd (tkT f n) (nvT f n) F L o s = some r) (ha : rdA f n t k m s μ) : ∀ t' : Nat, isTx t' → ∀ (x : Int32) (μ' : Mem), (t' = t ∧ x = nI o ∧ μ' = μ) → Ev2 G M d 0 [(0, .ref 23), (1, .ref t'), (2, .int x)] [] μ' (fun v ν => v = none ∧ rdC f n t k m s r.1 r.2 μ ν) := by
  rintro t' ht x μ' ⟨rfl, rfl, rfl⟩
  exact h f n t' k m o d s r μ' ht ho hd hr ha
theorem MC.no {G : GW} {M : MK} {d : Nat} : ∀ t' : Nat, isTx t' → ∀ (x : Int32) (μ' : Mem), (fun _ _ _ => False : Nat → Int32 → Mem → Prop) t' x μ' → Ev2 G M d 0 [(0, .ref 23), (1, .ref t'), (2, .int x)] [] μ' (fun v ν => v = none ∧ (fun _ _ _ _ => True : Nat → Int32 → Mem → Mem → Prop) t' x μ' ν) := fun _ _ _ _ h => h.elim
theorem sg_X2_readTerm_0 {G : GW} {K : Option Value → Mem → Prop} {μ : Mem} {d : Nat} (hd : 20 ≤ d) {P0 : Nat → Int32 → Mem → Prop} {R0 : Nat → Int32 → Mem → Mem → Prop} (ct_X2_readOne : ∀ t : Nat, isTx t → ∀ (x : Int32) (μ : Mem), P0 t x μ → Ev2 G mX2_readOne (d - 1) 0 [(0, .ref 23), (1, .ref t), (2, .int x)] [] μ (fun v μ' => v = none ∧ R0 t x μ μ')){r1 : Nat} {x2 : Int32} (hr1 : isTx r1) (h : (P0 r1 x2 μ) ∧ ∀ μ3 : Mem, (R0 r1 x2 μ μ3) → Ev2 G mX2_readTerm d 8 [(0, .ref 23), (1, .ref r1), (2, .int x2), (3, .int 0)] [] μ3 K) : Ev2 G mX2_readTerm d 0 [(0, .ref 23), (1, .ref r1), (2, .int x2)] [] μ K := by
  refine ev_aload_n dX2_readTerm_0 0 rfl (by decide) ?_
  refine ev_aload_n dX2_readTerm_1 1 rfl (nzTx hr1) ?_
  refine ev_iload_n dX2_readTerm_2 2 rfl ?_
  have p1 := h.1
  have h2 := h.2
  refine e2_callVrv (Rl := fun μ3 => R0 r1 x2 μ μ3) (a := 23) (as := [.ref r1, .int x2]) (st := []) ok_X2_readOne vi_X2_readOne ml_2_72 hcl_2 kd_23 dX2_readTerm_3 rfl rfl (Nat.le_of_ble_eq_true rfl) (Nat.le_of_ble_eq_true rfl) (by omega) (ct_X2_readOne  r1 hr1 (x2) μ p1) (fun μ3 r4 => ?_)
  have h5 := h2 μ3 r4
  refine ev_iconst (v := 0) dX2_readTerm_6 rfl ?_
  refine ev_istore_n (lv' := [(0, .ref 23), (1, .ref r1), (2, .int x2), (3, .int 0)]) dX2_readTerm_7 (by decide) [1, 2, 3, 0] rfl ?_
  exact h5
theorem sg_X2_readTerm_8 {G : GW} {K : Option Value → Mem → Prop} {μ : Mem} {d : Nat} (hd : 20 ≤ d) {P0 : Nat → Int32 → Mem → Prop} {R0 : Nat → Int32 → Mem → Mem → Prop} (ct_X2_readOne : ∀ t : Nat, isTx t → ∀ (x : Int32) (μ : Mem), P0 t x μ → Ev2 G mX2_readOne (d - 1) 0 [(0, .ref 23), (1, .ref t), (2, .int x)] [] μ (fun v μ' => v = none ∧ R0 t x μ μ')){r1 : Nat} {x2 x3 : Int32} (hr1 : isTx r1) (h : ((160 ≤ x3) → K none μ) ∧ ((¬ (160 ≤ x3)) → ((¬ (μ 23 1) = 17) → K none μ) ∧ (((μ 23 1) = 17) → (∃ n p, tpP n p μ) ∧ (P0 r1 x2 (expM μ (17 : Int32))) ∧ ∀ μ11 : Mem, (R0 r1 x2 (expM μ (17 : Int32)) μ11) → (∃ n, n ≤ 160 ∧ μ11 r1 3 = nI n) ∧ Ev2 G mX2_readTerm d 8 [(0, .ref 23), (1, .ref r1), (2, .int x2), (3, .int (x3 + 1))] [] (textAdd μ11 r1 (17 : Int32)) K))) : Ev2 G mX2_readTerm d 8 [(0, .ref 23), (1, .ref r1), (2, .int x2), (3, .int x3)] [] μ K := by
  refine ev_iload_n dX2_readTerm_8 3 rfl ?_
  refine ev_sipush (v := 160) dX2_readTerm_9 rfl ?_
  refine ev_icmp_ge (tgt := 48) dX2_readTerm_12 rfl (fun c1 => ?_) (fun c1 => ?_)
  · have h2 := h.1 c1
    exact ev_return dX2_readTerm_48 rfl rfl rfl ⟨rfl, h2⟩
  · have h3 := h.2 c1
    refine ev_aload_n dX2_readTerm_15 0 rfl (by decide) ?_
    refine ev_getI' (v := (μ 23 1)) fl_2_18 rfl kd_23 rfl dX2_readTerm_16 ?_
    refine ev_bipush (v := 17) dX2_readTerm_19 rfl ?_
    refine ev_icmp_ne (tgt := 48) dX2_readTerm_21 rfl (fun c4 => ?_) (fun c4 => ?_)
    · have h5 := h3.1 c4
      exact ev_return dX2_readTerm_48 rfl rfl rfl ⟨rfl, h5⟩
    · have h6 := h3.2 c4
      refine ev_aload_n dX2_readTerm_24 0 rfl (by decide) ?_
      refine ev_bipush (v := 17) dX2_readTerm_25 rfl ?_
      have p7 := h6.1
      have h8 := h6.2
      refine e2_callVv (μ1 := (expM μ (17 : Int32))) (a := 23) (as := [.int 17]) (st := []) ok_X2_expect vi_X2_expect ml_2_37 hcl_2 kd_23 dX2_readTerm_27 rfl rfl (Nat.le_of_ble_eq_true rfl) (Nat.le_of_ble_eq_true rfl) (by omega) (ct_X2_expect (17) μ p7) ?_
      refine ev_aload_n dX2_readTerm_30 0 rfl (by decide) ?_
      refine ev_aload_n dX2_readTerm_31 1 rfl (nzTx hr1) ?_
      refine ev_iload_n dX2_readTerm_32 2 rfl ?_
      have p9 := h8.1
      have h10 := h8.2
      refine e2_callVrv (Rl := fun μ11 => R0 r1 x2 (expM μ (17 : Int32)) μ11) (a := 23) (as := [.ref r1, .int x2]) (st := []) ok_X2_readOne vi_X2_readOne ml_2_72 hcl_2 kd_23 dX2_readTerm_33 rfl rfl (Nat.le_of_ble_eq_true rfl) (Nat.le_of_ble_eq_true rfl) (by omega) (ct_X2_readOne  r1 hr1 (x2) (expM μ (17 : Int32)) p9) (fun μ11 r12 => ?_)
      have h13 := h10 μ11 r12
      refine ev_aload_n dX2_readTerm_36 1 rfl (nzTx hr1) ?_
      refine ev_bipush (v := 17) dX2_readTerm_37 rfl ?_
      have p14 := h13.1
      have h15 := h13.2
      refine e2_callVv (μ1 := (textAdd μ11 r1 (17 : Int32))) (a := r1) (as := [.int 17]) (st := []) ok_X6_add vi_X6_add ml_2_57 hcl_6 (kdTx hr1) dX2_readTerm_39 rfl rfl (Nat.le_of_ble_eq_true rfl) (Nat.le_of_ble_eq_true rfl) (by omega) (ct_X6_add r1 hr1 (17) μ11 p14) ?_
      refine ev_iinc (v := (x3 + 1)) (lv' := [(0, .ref 23), (1, .ref r1), (2, .int x2), (3, .int (x3 + 1))]) dX2_readTerm_42 3 rfl rfl (by decide) [1, 2, 3, 0] rfl ?_
      refine ev_goto (tgt := 8) dX2_readTerm_45 rfl ?_
      exact h15
theorem sg_X2_readSum_0 {G : GW} {K : Option Value → Mem → Prop} {μ : Mem} {d : Nat} (hd : 20 ≤ d) {P1 : Nat → Int32 → Mem → Prop} {R1 : Nat → Int32 → Mem → Mem → Prop} (ct_X2_readTerm : ∀ t : Nat, isTx t → ∀ (x : Int32) (μ : Mem), P1 t x μ → Ev2 G mX2_readTerm (d - 1) 0 [(0, .ref 23), (1, .ref t), (2, .int x)] [] μ (fun v μ' => v = none ∧ R1 t x μ μ')){r1 : Nat} {x2 : Int32} (hr1 : isTx r1) (h : (P1 r1 x2 μ) ∧ ∀ μ3 : Mem, (R1 r1 x2 μ μ3) → Ev2 G mX2_readSum d 8 [(0, .ref 23), (1, .ref r1), (2, .int x2), (3, .int 0)] [] μ3 K) : Ev2 G mX2_readSum d 0 [(0, .ref 23), (1, .ref r1), (2, .int x2)] [] μ K := by
  refine ev_aload_n dX2_readSum_0 0 rfl (by decide) ?_
  refine ev_aload_n dX2_readSum_1 1 rfl (nzTx hr1) ?_
  refine ev_iload_n dX2_readSum_2 2 rfl ?_
  have p1 := h.1
  have h2 := h.2
  refine e2_callVrv (Rl := fun μ3 => R1 r1 x2 μ μ3) (a := 23) (as := [.ref r1, .int x2]) (st := []) ok_X2_readTerm vi_X2_readTerm ml_2_69 hcl_2 kd_23 dX2_readSum_3 rfl rfl (Nat.le_of_ble_eq_true rfl) (Nat.le_of_ble_eq_true rfl) (by omega) (ct_X2_readTerm  r1 hr1 (x2) μ p1) (fun μ3 r4 => ?_)
  have h5 := h2 μ3 r4
  refine ev_iconst (v := 0) dX2_readSum_6 rfl ?_
  refine ev_istore_n (lv' := [(0, .ref 23), (1, .ref r1), (2, .int x2), (3, .int 0)]) dX2_readSum_7 (by decide) [1, 2, 3, 0] rfl ?_
  exact h5
theorem sg_X2_readSum_8 {G : GW} {K : Option Value → Mem → Prop} {μ : Mem} {d : Nat} (hd : 20 ≤ d) {P1 : Nat → Int32 → Mem → Prop} {R1 : Nat → Int32 → Mem → Mem → Prop} (ct_X2_readTerm : ∀ t : Nat, isTx t → ∀ (x : Int32) (μ : Mem), P1 t x μ → Ev2 G mX2_readTerm (d - 1) 0 [(0, .ref 23), (1, .ref t), (2, .int x)] [] μ (fun v μ' => v = none ∧ R1 t x μ μ')){r1 : Nat} {x2 x3 : Int32} (hr1 : isTx r1) (h : ((160 ≤ x3) → K none μ) ∧ ((¬ (160 ≤ x3)) → (((μ 23 1) = 15) → (∃ n p, tpP n p μ) ∧ (P1 r1 x2 (expM μ (μ 23 1))) ∧ ∀ μ11 : Mem, (R1 r1 x2 (expM μ (μ 23 1)) μ11) → (∃ n, n ≤ 160 ∧ μ11 r1 3 = nI n) ∧ Ev2 G mX2_readSum d 8 [(0, .ref 23), (1, .ref r1), (2, .int x2), (3, .int (x3 + 1))] [] (textAdd μ11 r1 (μ 23 1)) K) ∧ ((¬ ((μ 23 1) = 15)) → ((¬ (μ 23 1) = 16) → K none μ) ∧ (((μ 23 1) = 16) → (∃ n p, tpP n p μ) ∧ (P1 r1 x2 (expM μ (μ 23 1))) ∧ ∀ μ23 : Mem, (R1 r1 x2 (expM μ (μ 23 1)) μ23) → (∃ n, n ≤ 160 ∧ μ23 r1 3 = nI n) ∧ Ev2 G mX2_readSum d 8 [(0, .ref 23), (1, .ref r1), (2, .int x2), (3, .int (x3 + 1))] [] (textAdd μ23 r1 (μ 23 1)) K)))) : Ev2 G mX2_readSum d 8 [(0, .ref 23), (1, .ref r1), (2, .int x2), (3, .int x3)] [] μ K := by
  refine ev_iload_n dX2_readSum_8 3 rfl ?_
  refine ev_sipush (v := 160) dX2_readSum_9 rfl ?_
  refine ev_icmp_ge (tgt := 63) dX2_readSum_12 rfl (fun c1 => ?_) (fun c1 => ?_)
  · have h2 := h.1 c1
    exact ev_return dX2_readSum_63 rfl rfl rfl ⟨rfl, h2⟩
  · have h3 := h.2 c1
    refine ev_aload_n dX2_readSum_15 0 rfl (by decide) ?_
    refine ev_getI' (v := (μ 23 1)) fl_2_18 rfl kd_23 rfl dX2_readSum_16 ?_
    refine ev_bipush (v := 15) dX2_readSum_19 rfl ?_
    refine ev_icmp_eq (tgt := 33) dX2_readSum_21 rfl (fun c4 => ?_) (fun c4 => ?_)
    · have h5 := h3.1 c4
      refine ev_aload_n dX2_readSum_33 0 rfl (by decide) ?_
      refine ev_getI' (v := (μ 23 1)) fl_2_18 rfl kd_23 rfl dX2_readSum_34 ?_
      refine ev_istore (lv' := [(0, .ref 23), (1, .ref r1), (2, .int x2), (3, .int x3), (4, .int (μ 23 1))]) dX2_readSum_37 (by decide) [1, 2, 3, 4, 0] rfl ?_
      refine ev_aload_n dX2_readSum_39 0 rfl (by decide) ?_
      refine ev_iload dX2_readSum_40 4 rfl ?_
      have p7 := h5.1
      have h8 := h5.2
      refine e2_callVv (μ1 := (expM μ (μ 23 1))) (a := 23) (as := [.int (μ 23 1)]) (st := []) ok_X2_expect vi_X2_expect ml_2_37 hcl_2 kd_23 dX2_readSum_42 rfl rfl (Nat.le_of_ble_eq_true rfl) (Nat.le_of_ble_eq_true rfl) (by omega) (ct_X2_expect ((μ 23 1)) μ p7) ?_
      refine ev_aload_n dX2_readSum_45 0 rfl (by decide) ?_
      refine ev_aload_n dX2_readSum_46 1 rfl (nzTx hr1) ?_
      refine ev_iload_n dX2_readSum_47 2 rfl ?_
      have p9 := h8.1
      have h10 := h8.2
      refine e2_callVrv (Rl := fun μ11 => R1 r1 x2 (expM μ (μ 23 1)) μ11) (a := 23) (as := [.ref r1, .int x2]) (st := []) ok_X2_readTerm vi_X2_readTerm ml_2_69 hcl_2 kd_23 dX2_readSum_48 rfl rfl (Nat.le_of_ble_eq_true rfl) (Nat.le_of_ble_eq_true rfl) (by omega) (ct_X2_readTerm  r1 hr1 (x2) (expM μ (μ 23 1)) p9) (fun μ11 r12 => ?_)
      have h13 := h10 μ11 r12
      refine ev_aload_n dX2_readSum_51 1 rfl (nzTx hr1) ?_
      refine ev_iload dX2_readSum_52 4 rfl ?_
      have p14 := h13.1
      have h15 := h13.2
      refine e2_callVv (μ1 := (textAdd μ11 r1 (μ 23 1))) (a := r1) (as := [.int (μ 23 1)]) (st := []) ok_X6_add vi_X6_add ml_2_57 hcl_6 (kdTx hr1) dX2_readSum_54 rfl rfl (Nat.le_of_ble_eq_true rfl) (Nat.le_of_ble_eq_true rfl) (by omega) (ct_X6_add r1 hr1 ((μ 23 1)) μ11 p14) ?_
      refine ev_iinc (v := (x3 + 1)) (lv' := [(0, .ref 23), (1, .ref r1), (2, .int x2), (3, .int (x3 + 1)), (4, .int (μ 23 1))]) dX2_readSum_57 3 rfl rfl (by decide) [1, 2, 3, 0, 4] rfl ?_
      refine ev_goto (tgt := 8) dX2_readSum_60 rfl ?_
      refine EvW.less [0, 1, 2, 3] (lv' := [(0, .ref 23), (1, .ref r1), (2, .int x2), (3, .int (x3 + 1))]) rfl ?_
      exact h15
    · have h6 := h3.2 c4
      refine ev_aload_n dX2_readSum_24 0 rfl (by decide) ?_
      refine ev_getI' (v := (μ 23 1)) fl_2_18 rfl kd_23 rfl dX2_readSum_25 ?_
      refine ev_bipush (v := 16) dX2_readSum_28 rfl ?_
      refine ev_icmp_ne (tgt := 63) dX2_readSum_30 rfl (fun c16 => ?_) (fun c16 => ?_)
      · have h17 := h6.1 c16
        exact ev_return dX2_readSum_63 rfl rfl rfl ⟨rfl, h17⟩
      · have h18 := h6.2 c16
        refine ev_aload_n dX2_readSum_33 0 rfl (by decide) ?_
        refine ev_getI' (v := (μ 23 1)) fl_2_18 rfl kd_23 rfl dX2_readSum_34 ?_
        refine ev_istore (lv' := [(0, .ref 23), (1, .ref r1), (2, .int x2), (3, .int x3), (4, .int (μ 23 1))]) dX2_readSum_37 (by decide) [1, 2, 3, 4, 0] rfl ?_
        refine ev_aload_n dX2_readSum_39 0 rfl (by decide) ?_
        refine ev_iload dX2_readSum_40 4 rfl ?_
        have p19 := h18.1
        have h20 := h18.2
        refine e2_callVv (μ1 := (expM μ (μ 23 1))) (a := 23) (as := [.int (μ 23 1)]) (st := []) ok_X2_expect vi_X2_expect ml_2_37 hcl_2 kd_23 dX2_readSum_42 rfl rfl (Nat.le_of_ble_eq_true rfl) (Nat.le_of_ble_eq_true rfl) (by omega) (ct_X2_expect ((μ 23 1)) μ p19) ?_
        refine ev_aload_n dX2_readSum_45 0 rfl (by decide) ?_
        refine ev_aload_n dX2_readSum_46 1 rfl (nzTx hr1) ?_
        refine ev_iload_n dX2_readSum_47 2 rfl ?_
        have p21 := h20.1
        have h22 := h20.2
        refine e2_callVrv (Rl := fun μ23 => R1 r1 x2 (expM μ (μ 23 1)) μ23) (a := 23) (as := [.ref r1, .int x2]) (st := []) ok_X2_readTerm vi_X2_readTerm ml_2_69 hcl_2 kd_23 dX2_readSum_48 rfl rfl (Nat.le_of_ble_eq_true rfl) (Nat.le_of_ble_eq_true rfl) (by omega) (ct_X2_readTerm  r1 hr1 (x2) (expM μ (μ 23 1)) p21) (fun μ23 r24 => ?_)
        have h25 := h22 μ23 r24
        refine ev_aload_n dX2_readSum_51 1 rfl (nzTx hr1) ?_
        refine ev_iload dX2_readSum_52 4 rfl ?_
        have p26 := h25.1
        have h27 := h25.2
        refine e2_callVv (μ1 := (textAdd μ23 r1 (μ 23 1))) (a := r1) (as := [.int (μ 23 1)]) (st := []) ok_X6_add vi_X6_add ml_2_57 hcl_6 (kdTx hr1) dX2_readSum_54 rfl rfl (Nat.le_of_ble_eq_true rfl) (Nat.le_of_ble_eq_true rfl) (by omega) (ct_X6_add r1 hr1 ((μ 23 1)) μ23 p26) ?_
        refine ev_iinc (v := (x3 + 1)) (lv' := [(0, .ref 23), (1, .ref r1), (2, .int x2), (3, .int (x3 + 1)), (4, .int (μ 23 1))]) dX2_readSum_57 3 rfl rfl (by decide) [1, 2, 3, 0, 4] rfl ?_
        refine ev_goto (tgt := 8) dX2_readSum_60 rfl ?_
        refine EvW.less [0, 1, 2, 3] (lv' := [(0, .ref 23), (1, .ref r1), (2, .int x2), (3, .int (x3 + 1))]) rfl ?_
        exact h27
theorem sg_X2_readComparison_0 {G : GW} {K : Option Value → Mem → Prop} {μ : Mem} {d : Nat} (hd : 20 ≤ d) {P2 : Nat → Int32 → Mem → Prop} {R2 : Nat → Int32 → Mem → Mem → Prop} (ct_X2_readSum : ∀ t : Nat, isTx t → ∀ (x : Int32) (μ : Mem), P2 t x μ → Ev2 G mX2_readSum (d - 1) 0 [(0, .ref 23), (1, .ref t), (2, .int x)] [] μ (fun v μ' => v = none ∧ R2 t x μ μ')){r1 : Nat} {x2 : Int32} (hr1 : isTx r1) (h : (P2 r1 x2 μ) ∧ ∀ μ3 : Mem, (R2 r1 x2 μ μ3) → Ev2 G mX2_readComparison d 6 [(0, .ref 23), (1, .ref r1), (2, .int x2)] [] μ3 K) : Ev2 G mX2_readComparison d 0 [(0, .ref 23), (1, .ref r1), (2, .int x2)] [] μ K := by
  refine ev_aload_n dX2_readComparison_0 0 rfl (by decide) ?_
  refine ev_aload_n dX2_readComparison_1 1 rfl (nzTx hr1) ?_
  refine ev_iload_n dX2_readComparison_2 2 rfl ?_
  have p1 := h.1
  have h2 := h.2
  refine e2_callVrv (Rl := fun μ3 => R2 r1 x2 μ μ3) (a := 23) (as := [.ref r1, .int x2]) (st := []) ok_X2_readSum vi_X2_readSum ml_2_66 hcl_2 kd_23 dX2_readComparison_3 rfl rfl (Nat.le_of_ble_eq_true rfl) (Nat.le_of_ble_eq_true rfl) (by omega) (ct_X2_readSum  r1 hr1 (x2) μ p1) (fun μ3 r4 => ?_)
  have h5 := h2 μ3 r4
  exact h5
theorem sg_X2_readComparison_6 {G : GW} {K : Option Value → Mem → Prop} {μ : Mem} {d : Nat} (hd : 20 ≤ d) {P2 : Nat → Int32 → Mem → Prop} {R2 : Nat → Int32 → Mem → Mem → Prop} (ct_X2_readSum : ∀ t : Nat, isTx t → ∀ (x : Int32) (μ : Mem), P2 t x μ → Ev2 G mX2_readSum (d - 1) 0 [(0, .ref 23), (1, .ref t), (2, .int x)] [] μ (fun v μ' => v = none ∧ R2 t x μ μ')){r1 : Nat} {x2 : Int32} (hr1 : isTx r1) (h : (((μ 23 1) = 18) → (∃ n p, tpP n p μ) ∧ (P2 r1 x2 (expM μ (μ 23 1))) ∧ ∀ μ8 : Mem, (R2 r1 x2 (expM μ (μ 23 1)) μ8) → (∃ n, n ≤ 160 ∧ μ8 r1 3 = nI n) ∧ K none (textAdd μ8 r1 (μ 23 1))) ∧ ((¬ ((μ 23 1) = 18)) → ((¬ (μ 23 1) = 19) → K none μ) ∧ (((μ 23 1) = 19) → (∃ n p, tpP n p μ) ∧ (P2 r1 x2 (expM μ (μ 23 1))) ∧ ∀ μ20 : Mem, (R2 r1 x2 (expM μ (μ 23 1)) μ20) → (∃ n, n ≤ 160 ∧ μ20 r1 3 = nI n) ∧ K none (textAdd μ20 r1 (μ 23 1))))) : Ev2 G mX2_readComparison d 6 [(0, .ref 23), (1, .ref r1), (2, .int x2)] [] μ K := by
  refine ev_aload_n dX2_readComparison_6 0 rfl (by decide) ?_
  refine ev_getI' (v := (μ 23 1)) fl_2_18 rfl kd_23 rfl dX2_readComparison_7 ?_
  refine ev_bipush (v := 18) dX2_readComparison_10 rfl ?_
  refine ev_icmp_eq (tgt := 24) dX2_readComparison_12 rfl (fun c1 => ?_) (fun c1 => ?_)
  · have h2 := h.1 c1
    refine ev_aload_n dX2_readComparison_24 0 rfl (by decide) ?_
    refine ev_getI' (v := (μ 23 1)) fl_2_18 rfl kd_23 rfl dX2_readComparison_25 ?_
    refine ev_istore_n (lv' := [(0, .ref 23), (1, .ref r1), (2, .int x2), (3, .int (μ 23 1))]) dX2_readComparison_28 (by decide) [1, 2, 3, 0] rfl ?_
    refine ev_aload_n dX2_readComparison_29 0 rfl (by decide) ?_
    refine ev_iload_n dX2_readComparison_30 3 rfl ?_
    have p4 := h2.1
    have h5 := h2.2
    refine e2_callVv (μ1 := (expM μ (μ 23 1))) (a := 23) (as := [.int (μ 23 1)]) (st := []) ok_X2_expect vi_X2_expect ml_2_37 hcl_2 kd_23 dX2_readComparison_31 rfl rfl (Nat.le_of_ble_eq_true rfl) (Nat.le_of_ble_eq_true rfl) (by omega) (ct_X2_expect ((μ 23 1)) μ p4) ?_
    refine ev_aload_n dX2_readComparison_34 0 rfl (by decide) ?_
    refine ev_aload_n dX2_readComparison_35 1 rfl (nzTx hr1) ?_
    refine ev_iload_n dX2_readComparison_36 2 rfl ?_
    have p6 := h5.1
    have h7 := h5.2
    refine e2_callVrv (Rl := fun μ8 => R2 r1 x2 (expM μ (μ 23 1)) μ8) (a := 23) (as := [.ref r1, .int x2]) (st := []) ok_X2_readSum vi_X2_readSum ml_2_66 hcl_2 kd_23 dX2_readComparison_37 rfl rfl (Nat.le_of_ble_eq_true rfl) (Nat.le_of_ble_eq_true rfl) (by omega) (ct_X2_readSum  r1 hr1 (x2) (expM μ (μ 23 1)) p6) (fun μ8 r9 => ?_)
    have h10 := h7 μ8 r9
    refine ev_aload_n dX2_readComparison_40 1 rfl (nzTx hr1) ?_
    refine ev_iload_n dX2_readComparison_41 3 rfl ?_
    have p11 := h10.1
    have h12 := h10.2
    refine e2_callVv (μ1 := (textAdd μ8 r1 (μ 23 1))) (a := r1) (as := [.int (μ 23 1)]) (st := []) ok_X6_add vi_X6_add ml_2_57 hcl_6 (kdTx hr1) dX2_readComparison_42 rfl rfl (Nat.le_of_ble_eq_true rfl) (Nat.le_of_ble_eq_true rfl) (by omega) (ct_X6_add r1 hr1 ((μ 23 1)) μ8 p11) ?_
    exact ev_return dX2_readComparison_45 rfl rfl rfl ⟨rfl, h12⟩
  · have h3 := h.2 c1
    refine ev_aload_n dX2_readComparison_15 0 rfl (by decide) ?_
    refine ev_getI' (v := (μ 23 1)) fl_2_18 rfl kd_23 rfl dX2_readComparison_16 ?_
    refine ev_bipush (v := 19) dX2_readComparison_19 rfl ?_
    refine ev_icmp_ne (tgt := 45) dX2_readComparison_21 rfl (fun c13 => ?_) (fun c13 => ?_)
    · have h14 := h3.1 c13
      exact ev_return dX2_readComparison_45 rfl rfl rfl ⟨rfl, h14⟩
    · have h15 := h3.2 c13
      refine ev_aload_n dX2_readComparison_24 0 rfl (by decide) ?_
      refine ev_getI' (v := (μ 23 1)) fl_2_18 rfl kd_23 rfl dX2_readComparison_25 ?_
      refine ev_istore_n (lv' := [(0, .ref 23), (1, .ref r1), (2, .int x2), (3, .int (μ 23 1))]) dX2_readComparison_28 (by decide) [1, 2, 3, 0] rfl ?_
      refine ev_aload_n dX2_readComparison_29 0 rfl (by decide) ?_
      refine ev_iload_n dX2_readComparison_30 3 rfl ?_
      have p16 := h15.1
      have h17 := h15.2
      refine e2_callVv (μ1 := (expM μ (μ 23 1))) (a := 23) (as := [.int (μ 23 1)]) (st := []) ok_X2_expect vi_X2_expect ml_2_37 hcl_2 kd_23 dX2_readComparison_31 rfl rfl (Nat.le_of_ble_eq_true rfl) (Nat.le_of_ble_eq_true rfl) (by omega) (ct_X2_expect ((μ 23 1)) μ p16) ?_
      refine ev_aload_n dX2_readComparison_34 0 rfl (by decide) ?_
      refine ev_aload_n dX2_readComparison_35 1 rfl (nzTx hr1) ?_
      refine ev_iload_n dX2_readComparison_36 2 rfl ?_
      have p18 := h17.1
      have h19 := h17.2
      refine e2_callVrv (Rl := fun μ20 => R2 r1 x2 (expM μ (μ 23 1)) μ20) (a := 23) (as := [.ref r1, .int x2]) (st := []) ok_X2_readSum vi_X2_readSum ml_2_66 hcl_2 kd_23 dX2_readComparison_37 rfl rfl (Nat.le_of_ble_eq_true rfl) (Nat.le_of_ble_eq_true rfl) (by omega) (ct_X2_readSum  r1 hr1 (x2) (expM μ (μ 23 1)) p18) (fun μ20 r21 => ?_)
      have h22 := h19 μ20 r21
      refine ev_aload_n dX2_readComparison_40 1 rfl (nzTx hr1) ?_
      refine ev_iload_n dX2_readComparison_41 3 rfl ?_
      have p23 := h22.1
      have h24 := h22.2
      refine e2_callVv (μ1 := (textAdd μ20 r1 (μ 23 1))) (a := r1) (as := [.int (μ 23 1)]) (st := []) ok_X6_add vi_X6_add ml_2_57 hcl_6 (kdTx hr1) dX2_readComparison_42 rfl rfl (Nat.le_of_ble_eq_true rfl) (Nat.le_of_ble_eq_true rfl) (by omega) (ct_X6_add r1 hr1 ((μ 23 1)) μ20 p23) ?_
      exact ev_return dX2_readComparison_45 rfl rfl rfl ⟨rfl, h24⟩
theorem sg_X2_readNot_0 {G : GW} {K : Option Value → Mem → Prop} {μ : Mem} {d : Nat} (hd : 20 ≤ d) {P3 : Nat → Int32 → Mem → Prop} {R3 : Nat → Int32 → Mem → Mem → Prop} (ct_X2_readComparison : ∀ t : Nat, isTx t → ∀ (x : Int32) (μ : Mem), P3 t x μ → Ev2 G mX2_readComparison (d - 1) 0 [(0, .ref 23), (1, .ref t), (2, .int x)] [] μ (fun v μ' => v = none ∧ R3 t x μ μ')) {P4 : Nat → Int32 → Mem → Prop} {R4 : Nat → Int32 → Mem → Mem → Prop} (ct_X2_readNot : ∀ t : Nat, isTx t → ∀ (x : Int32) (μ : Mem), P4 t x μ → Ev2 G mX2_readNot (d - 1) 0 [(0, .ref 23), (1, .ref t), (2, .int x)] [] μ (fun v μ' => v = none ∧ R4 t x μ μ')){r1 : Nat} {x2 : Int32} (hr1 : isTx r1) (h : (((μ 23 1) = 5) → ((x2 < 5) → (∃ n p, tpP n p μ) ∧ (P4 r1 (x2 + 1) (expM μ (5 : Int32))) ∧ ∀ μ11 : Mem, (R4 r1 (x2 + 1) (expM μ (5 : Int32)) μ11) → (∃ n, n ≤ 160 ∧ μ11 r1 3 = nI n) ∧ K none (textAdd μ11 r1 (5 : Int32))) ∧ ((¬ (x2 < 5)) → K none (failM μ))) ∧ ((¬ ((μ 23 1) = 5)) → (P3 r1 x2 μ) ∧ ∀ μ18 : Mem, (R3 r1 x2 μ μ18) → K none μ18)) : Ev2 G mX2_readNot d 0 [(0, .ref 23), (1, .ref r1), (2, .int x2)] [] μ K := by
  refine ev_aload_n dX2_readNot_0 0 rfl (by decide) ?_
  refine ev_getI' (v := (μ 23 1)) fl_2_18 rfl kd_23 rfl dX2_readNot_1 ?_
  refine ev_iconst (v := 5) dX2_readNot_4 rfl ?_
  refine ev_icmp_eq (tgt := 17) dX2_readNot_5 rfl (fun c1 => ?_) (fun c1 => ?_)
  · have h2 := h.1 c1
    refine ev_iload_n dX2_readNot_17 2 rfl ?_
    refine ev_iconst (v := 5) dX2_readNot_18 rfl ?_
    refine ev_icmp_lt (tgt := 29) dX2_readNot_19 rfl (fun c4 => ?_) (fun c4 => ?_)
    · have h5 := h2.1 c4
      refine ev_aload_n dX2_readNot_29 0 rfl (by decide) ?_
      refine ev_iconst (v := 5) dX2_readNot_30 rfl ?_
      have p7 := h5.1
      have h8 := h5.2
      refine e2_callVv (μ1 := (expM μ (5 : Int32))) (a := 23) (as := [.int 5]) (st := []) ok_X2_expect vi_X2_expect ml_2_37 hcl_2 kd_23 dX2_readNot_31 rfl rfl (Nat.le_of_ble_eq_true rfl) (Nat.le_of_ble_eq_true rfl) (by omega) (ct_X2_expect (5) μ p7) ?_
      refine ev_aload_n dX2_readNot_34 0 rfl (by decide) ?_
      refine ev_aload_n dX2_readNot_35 1 rfl (nzTx hr1) ?_
      refine ev_iload_n dX2_readNot_36 2 rfl ?_
      refine ev_iconst (v := 1) dX2_readNot_37 rfl ?_
      refine ev_iadd dX2_readNot_38 ?_
      have p9 := h8.1
      have h10 := h8.2
      refine e2_callVrv (Rl := fun μ11 => R4 r1 (x2 + 1) (expM μ (5 : Int32)) μ11) (a := 23) (as := [.ref r1, .int (x2 + 1)]) (st := []) ok_X2_readNot vi_X2_readNot ml_2_60 hcl_2 kd_23 dX2_readNot_39 rfl rfl (Nat.le_of_ble_eq_true rfl) (Nat.le_of_ble_eq_true rfl) (by omega) (ct_X2_readNot  r1 hr1 ((x2 + 1)) (expM μ (5 : Int32)) p9) (fun μ11 r12 => ?_)
      have h13 := h10 μ11 r12
      refine ev_aload_n dX2_readNot_42 1 rfl (nzTx hr1) ?_
      refine ev_iconst (v := 5) dX2_readNot_43 rfl ?_
      have p14 := h13.1
      have h15 := h13.2
      refine e2_callVv (μ1 := (textAdd μ11 r1 (5 : Int32))) (a := r1) (as := [.int 5]) (st := []) ok_X6_add vi_X6_add ml_2_57 hcl_6 (kdTx hr1) dX2_readNot_44 rfl rfl (Nat.le_of_ble_eq_true rfl) (Nat.le_of_ble_eq_true rfl) (by omega) (ct_X6_add r1 hr1 (5) μ11 p14) ?_
      exact ev_return dX2_readNot_47 rfl rfl rfl ⟨rfl, h15⟩
    · have h6 := h2.2 c4
      refine ev_aload_n dX2_readNot_22 0 rfl (by decide) ?_
      refine e2_callVv (μ1 := (failM μ)) (a := 23) (as := []) (st := []) ok_X2_fail vi_X2_fail ml_2_48 hcl_2 kd_23 dX2_readNot_23 rfl rfl (Nat.le_of_ble_eq_true rfl) (Nat.le_of_ble_eq_true rfl) (by omega) (ct_X2_fail μ) ?_
      refine ev_goto (tgt := 47) dX2_readNot_26 rfl ?_
      exact ev_return dX2_readNot_47 rfl rfl rfl ⟨rfl, h6⟩
  · have h3 := h.2 c1
    refine ev_aload_n dX2_readNot_8 0 rfl (by decide) ?_
    refine ev_aload_n dX2_readNot_9 1 rfl (nzTx hr1) ?_
    refine ev_iload_n dX2_readNot_10 2 rfl ?_
    have p16 := h3.1
    have h17 := h3.2
    refine e2_callVrv (Rl := fun μ18 => R3 r1 x2 μ μ18) (a := 23) (as := [.ref r1, .int x2]) (st := []) ok_X2_readComparison vi_X2_readComparison ml_2_63 hcl_2 kd_23 dX2_readNot_11 rfl rfl (Nat.le_of_ble_eq_true rfl) (Nat.le_of_ble_eq_true rfl) (by omega) (ct_X2_readComparison  r1 hr1 (x2) μ p16) (fun μ18 r19 => ?_)
    have h20 := h17 μ18 r19
    refine ev_goto (tgt := 47) dX2_readNot_14 rfl ?_
    exact ev_return dX2_readNot_47 rfl rfl rfl ⟨rfl, h20⟩
theorem sg_X2_readAnd_0 {G : GW} {K : Option Value → Mem → Prop} {μ : Mem} {d : Nat} (hd : 20 ≤ d) {P4 : Nat → Int32 → Mem → Prop} {R4 : Nat → Int32 → Mem → Mem → Prop} (ct_X2_readNot : ∀ t : Nat, isTx t → ∀ (x : Int32) (μ : Mem), P4 t x μ → Ev2 G mX2_readNot (d - 1) 0 [(0, .ref 23), (1, .ref t), (2, .int x)] [] μ (fun v μ' => v = none ∧ R4 t x μ μ')){r1 : Nat} {x2 : Int32} (hr1 : isTx r1) (h : (P4 r1 x2 μ) ∧ ∀ μ3 : Mem, (R4 r1 x2 μ μ3) → Ev2 G mX2_readAnd d 8 [(0, .ref 23), (1, .ref r1), (2, .int x2), (3, .int 0)] [] μ3 K) : Ev2 G mX2_readAnd d 0 [(0, .ref 23), (1, .ref r1), (2, .int x2)] [] μ K := by
  refine ev_aload_n dX2_readAnd_0 0 rfl (by decide) ?_
  refine ev_aload_n dX2_readAnd_1 1 rfl (nzTx hr1) ?_
  refine ev_iload_n dX2_readAnd_2 2 rfl ?_
  have p1 := h.1
  have h2 := h.2
  refine e2_callVrv (Rl := fun μ3 => R4 r1 x2 μ μ3) (a := 23) (as := [.ref r1, .int x2]) (st := []) ok_X2_readNot vi_X2_readNot ml_2_60 hcl_2 kd_23 dX2_readAnd_3 rfl rfl (Nat.le_of_ble_eq_true rfl) (Nat.le_of_ble_eq_true rfl) (by omega) (ct_X2_readNot  r1 hr1 (x2) μ p1) (fun μ3 r4 => ?_)
  have h5 := h2 μ3 r4
  refine ev_iconst (v := 0) dX2_readAnd_6 rfl ?_
  refine ev_istore_n (lv' := [(0, .ref 23), (1, .ref r1), (2, .int x2), (3, .int 0)]) dX2_readAnd_7 (by decide) [1, 2, 3, 0] rfl ?_
  exact h5
theorem sg_X2_readAnd_8 {G : GW} {K : Option Value → Mem → Prop} {μ : Mem} {d : Nat} (hd : 20 ≤ d) {P4 : Nat → Int32 → Mem → Prop} {R4 : Nat → Int32 → Mem → Mem → Prop} (ct_X2_readNot : ∀ t : Nat, isTx t → ∀ (x : Int32) (μ : Mem), P4 t x μ → Ev2 G mX2_readNot (d - 1) 0 [(0, .ref 23), (1, .ref t), (2, .int x)] [] μ (fun v μ' => v = none ∧ R4 t x μ μ')){r1 : Nat} {x2 x3 : Int32} (hr1 : isTx r1) (h : ((160 ≤ x3) → K none μ) ∧ ((¬ (160 ≤ x3)) → ((¬ (μ 23 1) = 4) → K none μ) ∧ (((μ 23 1) = 4) → (∃ n p, tpP n p μ) ∧ (P4 r1 x2 (expM μ (4 : Int32))) ∧ ∀ μ11 : Mem, (R4 r1 x2 (expM μ (4 : Int32)) μ11) → (∃ n, n ≤ 160 ∧ μ11 r1 3 = nI n) ∧ Ev2 G mX2_readAnd d 8 [(0, .ref 23), (1, .ref r1), (2, .int x2), (3, .int (x3 + 1))] [] (textAdd μ11 r1 (4 : Int32)) K))) : Ev2 G mX2_readAnd d 8 [(0, .ref 23), (1, .ref r1), (2, .int x2), (3, .int x3)] [] μ K := by
  refine ev_iload_n dX2_readAnd_8 3 rfl ?_
  refine ev_sipush (v := 160) dX2_readAnd_9 rfl ?_
  refine ev_icmp_ge (tgt := 45) dX2_readAnd_12 rfl (fun c1 => ?_) (fun c1 => ?_)
  · have h2 := h.1 c1
    exact ev_return dX2_readAnd_45 rfl rfl rfl ⟨rfl, h2⟩
  · have h3 := h.2 c1
    refine ev_aload_n dX2_readAnd_15 0 rfl (by decide) ?_
    refine ev_getI' (v := (μ 23 1)) fl_2_18 rfl kd_23 rfl dX2_readAnd_16 ?_
    refine ev_iconst (v := 4) dX2_readAnd_19 rfl ?_
    refine ev_icmp_ne (tgt := 45) dX2_readAnd_20 rfl (fun c4 => ?_) (fun c4 => ?_)
    · have h5 := h3.1 c4
      exact ev_return dX2_readAnd_45 rfl rfl rfl ⟨rfl, h5⟩
    · have h6 := h3.2 c4
      refine ev_aload_n dX2_readAnd_23 0 rfl (by decide) ?_
      refine ev_iconst (v := 4) dX2_readAnd_24 rfl ?_
      have p7 := h6.1
      have h8 := h6.2
      refine e2_callVv (μ1 := (expM μ (4 : Int32))) (a := 23) (as := [.int 4]) (st := []) ok_X2_expect vi_X2_expect ml_2_37 hcl_2 kd_23 dX2_readAnd_25 rfl rfl (Nat.le_of_ble_eq_true rfl) (Nat.le_of_ble_eq_true rfl) (by omega) (ct_X2_expect (4) μ p7) ?_
      refine ev_aload_n dX2_readAnd_28 0 rfl (by decide) ?_
      refine ev_aload_n dX2_readAnd_29 1 rfl (nzTx hr1) ?_
      refine ev_iload_n dX2_readAnd_30 2 rfl ?_
      have p9 := h8.1
      have h10 := h8.2
      refine e2_callVrv (Rl := fun μ11 => R4 r1 x2 (expM μ (4 : Int32)) μ11) (a := 23) (as := [.ref r1, .int x2]) (st := []) ok_X2_readNot vi_X2_readNot ml_2_60 hcl_2 kd_23 dX2_readAnd_31 rfl rfl (Nat.le_of_ble_eq_true rfl) (Nat.le_of_ble_eq_true rfl) (by omega) (ct_X2_readNot  r1 hr1 (x2) (expM μ (4 : Int32)) p9) (fun μ11 r12 => ?_)
      have h13 := h10 μ11 r12
      refine ev_aload_n dX2_readAnd_34 1 rfl (nzTx hr1) ?_
      refine ev_iconst (v := 4) dX2_readAnd_35 rfl ?_
      have p14 := h13.1
      have h15 := h13.2
      refine e2_callVv (μ1 := (textAdd μ11 r1 (4 : Int32))) (a := r1) (as := [.int 4]) (st := []) ok_X6_add vi_X6_add ml_2_57 hcl_6 (kdTx hr1) dX2_readAnd_36 rfl rfl (Nat.le_of_ble_eq_true rfl) (Nat.le_of_ble_eq_true rfl) (by omega) (ct_X6_add r1 hr1 (4) μ11 p14) ?_
      refine ev_iinc (v := (x3 + 1)) (lv' := [(0, .ref 23), (1, .ref r1), (2, .int x2), (3, .int (x3 + 1))]) dX2_readAnd_39 3 rfl rfl (by decide) [1, 2, 3, 0] rfl ?_
      refine ev_goto (tgt := 8) dX2_readAnd_42 rfl ?_
      exact h15
theorem sg_X2_readOr_0 {G : GW} {K : Option Value → Mem → Prop} {μ : Mem} {d : Nat} (hd : 20 ≤ d) {P5 : Nat → Int32 → Mem → Prop} {R5 : Nat → Int32 → Mem → Mem → Prop} (ct_X2_readAnd : ∀ t : Nat, isTx t → ∀ (x : Int32) (μ : Mem), P5 t x μ → Ev2 G mX2_readAnd (d - 1) 0 [(0, .ref 23), (1, .ref t), (2, .int x)] [] μ (fun v μ' => v = none ∧ R5 t x μ μ')){r1 : Nat} {x2 : Int32} (hr1 : isTx r1) (h : (P5 r1 x2 μ) ∧ ∀ μ3 : Mem, (R5 r1 x2 μ μ3) → Ev2 G mX2_readOr d 8 [(0, .ref 23), (1, .ref r1), (2, .int x2), (3, .int 0)] [] μ3 K) : Ev2 G mX2_readOr d 0 [(0, .ref 23), (1, .ref r1), (2, .int x2)] [] μ K := by
  refine ev_aload_n dX2_readOr_0 0 rfl (by decide) ?_
  refine ev_aload_n dX2_readOr_1 1 rfl (nzTx hr1) ?_
  refine ev_iload_n dX2_readOr_2 2 rfl ?_
  have p1 := h.1
  have h2 := h.2
  refine e2_callVrv (Rl := fun μ3 => R5 r1 x2 μ μ3) (a := 23) (as := [.ref r1, .int x2]) (st := []) ok_X2_readAnd vi_X2_readAnd ml_2_54 hcl_2 kd_23 dX2_readOr_3 rfl rfl (Nat.le_of_ble_eq_true rfl) (Nat.le_of_ble_eq_true rfl) (by omega) (ct_X2_readAnd  r1 hr1 (x2) μ p1) (fun μ3 r4 => ?_)
  have h5 := h2 μ3 r4
  refine ev_iconst (v := 0) dX2_readOr_6 rfl ?_
  refine ev_istore_n (lv' := [(0, .ref 23), (1, .ref r1), (2, .int x2), (3, .int 0)]) dX2_readOr_7 (by decide) [1, 2, 3, 0] rfl ?_
  exact h5
theorem sg_X2_readOr_8 {G : GW} {K : Option Value → Mem → Prop} {μ : Mem} {d : Nat} (hd : 20 ≤ d) {P5 : Nat → Int32 → Mem → Prop} {R5 : Nat → Int32 → Mem → Mem → Prop} (ct_X2_readAnd : ∀ t : Nat, isTx t → ∀ (x : Int32) (μ : Mem), P5 t x μ → Ev2 G mX2_readAnd (d - 1) 0 [(0, .ref 23), (1, .ref t), (2, .int x)] [] μ (fun v μ' => v = none ∧ R5 t x μ μ')){r1 : Nat} {x2 x3 : Int32} (hr1 : isTx r1) (h : ((160 ≤ x3) → K none μ) ∧ ((¬ (160 ≤ x3)) → ((¬ (μ 23 1) = 3) → K none μ) ∧ (((μ 23 1) = 3) → (∃ n p, tpP n p μ) ∧ (P5 r1 x2 (expM μ (3 : Int32))) ∧ ∀ μ11 : Mem, (R5 r1 x2 (expM μ (3 : Int32)) μ11) → (∃ n, n ≤ 160 ∧ μ11 r1 3 = nI n) ∧ Ev2 G mX2_readOr d 8 [(0, .ref 23), (1, .ref r1), (2, .int x2), (3, .int (x3 + 1))] [] (textAdd μ11 r1 (3 : Int32)) K))) : Ev2 G mX2_readOr d 8 [(0, .ref 23), (1, .ref r1), (2, .int x2), (3, .int x3)] [] μ K := by
  refine ev_iload_n dX2_readOr_8 3 rfl ?_
  refine ev_sipush (v := 160) dX2_readOr_9 rfl ?_
  refine ev_icmp_ge (tgt := 45) dX2_readOr_12 rfl (fun c1 => ?_) (fun c1 => ?_)
  · have h2 := h.1 c1
    exact ev_return dX2_readOr_45 rfl rfl rfl ⟨rfl, h2⟩
  · have h3 := h.2 c1
    refine ev_aload_n dX2_readOr_15 0 rfl (by decide) ?_
    refine ev_getI' (v := (μ 23 1)) fl_2_18 rfl kd_23 rfl dX2_readOr_16 ?_
    refine ev_iconst (v := 3) dX2_readOr_19 rfl ?_
    refine ev_icmp_ne (tgt := 45) dX2_readOr_20 rfl (fun c4 => ?_) (fun c4 => ?_)
    · have h5 := h3.1 c4
      exact ev_return dX2_readOr_45 rfl rfl rfl ⟨rfl, h5⟩
    · have h6 := h3.2 c4
      refine ev_aload_n dX2_readOr_23 0 rfl (by decide) ?_
      refine ev_iconst (v := 3) dX2_readOr_24 rfl ?_
      have p7 := h6.1
      have h8 := h6.2
      refine e2_callVv (μ1 := (expM μ (3 : Int32))) (a := 23) (as := [.int 3]) (st := []) ok_X2_expect vi_X2_expect ml_2_37 hcl_2 kd_23 dX2_readOr_25 rfl rfl (Nat.le_of_ble_eq_true rfl) (Nat.le_of_ble_eq_true rfl) (by omega) (ct_X2_expect (3) μ p7) ?_
      refine ev_aload_n dX2_readOr_28 0 rfl (by decide) ?_
      refine ev_aload_n dX2_readOr_29 1 rfl (nzTx hr1) ?_
      refine ev_iload_n dX2_readOr_30 2 rfl ?_
      have p9 := h8.1
      have h10 := h8.2
      refine e2_callVrv (Rl := fun μ11 => R5 r1 x2 (expM μ (3 : Int32)) μ11) (a := 23) (as := [.ref r1, .int x2]) (st := []) ok_X2_readAnd vi_X2_readAnd ml_2_54 hcl_2 kd_23 dX2_readOr_31 rfl rfl (Nat.le_of_ble_eq_true rfl) (Nat.le_of_ble_eq_true rfl) (by omega) (ct_X2_readAnd  r1 hr1 (x2) (expM μ (3 : Int32)) p9) (fun μ11 r12 => ?_)
      have h13 := h10 μ11 r12
      refine ev_aload_n dX2_readOr_34 1 rfl (nzTx hr1) ?_
      refine ev_iconst (v := 3) dX2_readOr_35 rfl ?_
      have p14 := h13.1
      have h15 := h13.2
      refine e2_callVv (μ1 := (textAdd μ11 r1 (3 : Int32))) (a := r1) (as := [.int 3]) (st := []) ok_X6_add vi_X6_add ml_2_57 hcl_6 (kdTx hr1) dX2_readOr_36 rfl rfl (Nat.le_of_ble_eq_true rfl) (Nat.le_of_ble_eq_true rfl) (by omega) (ct_X6_add r1 hr1 (3) μ11 p14) ?_
      refine ev_iinc (v := (x3 + 1)) (lv' := [(0, .ref 23), (1, .ref r1), (2, .int x2), (3, .int (x3 + 1))]) dX2_readOr_39 3 rfl rfl (by decide) [1, 2, 3, 0] rfl ?_
      refine ev_goto (tgt := 8) dX2_readOr_42 rfl ?_
      exact h15
theorem sg_X2_readOne_0 {G : GW} {K : Option Value → Mem → Prop} {μ : Mem} {d : Nat} (hd : 20 ≤ d) {P0 : Nat → Int32 → Mem → Prop} {R0 : Nat → Int32 → Mem → Mem → Prop} (ct_X2_readOne : ∀ t : Nat, isTx t → ∀ (x : Int32) (μ : Mem), P0 t x μ → Ev2 G mX2_readOne (d - 1) 0 [(0, .ref 23), (1, .ref t), (2, .int x)] [] μ (fun v μ' => v = none ∧ R0 t x μ μ')) {P6 : Nat → Int32 → Mem → Prop} {R6 : Nat → Int32 → Mem → Mem → Prop} (ct_X2_readOr : ∀ t : Nat, isTx t → ∀ (x : Int32) (μ : Mem), P6 t x μ → Ev2 G mX2_readOr (d - 1) 0 [(0, .ref 23), (1, .ref t), (2, .int x)] [] μ (fun v μ' => v = none ∧ R6 t x μ μ')){r1 : Nat} {x2 : Int32} (hr1 : isTx r1) (h : ((¬ (μ 23 1) = 20) → (((inB (μ 23 1) (6 : Int32) (11 : Int32)) = false) → ((5 ≤ x2) → K none (failM μ)) ∧ ((¬ (5 ≤ x2)) → (((μ 23 1) = 16) → ((¬ (μ 23 1) = 16) → (∃ n p, tpP n p μ) ∧ (P6 r1 (x2 + 1) (expM μ (12 : Int32))) ∧ ∀ μ20 : Mem, (R6 r1 (x2 + 1) (expM μ (12 : Int32)) μ20) → (∃ n p, tpP n p μ20) ∧ K none (expM μ20 (13 : Int32))) ∧ (((μ 23 1) = 16) → (∃ n p, tpP n p μ) ∧ (P0 r1 (x2 + 1) (expM μ (16 : Int32))) ∧ ∀ μ29 : Mem, (R0 r1 (x2 + 1) (expM μ (16 : Int32)) μ29) → (∃ n, n ≤ 160 ∧ μ29 r1 3 = nI n) ∧ K none (textAdd μ29 r1 (23 : Int32)))) ∧ ((¬ ((μ 23 1) = 16)) → (((μ 23 1) = 12) → ((¬ (μ 23 1) = 16) → (∃ n p, tpP n p μ) ∧ (P6 r1 (x2 + 1) (expM μ (12 : Int32))) ∧ ∀ μ44 : Mem, (R6 r1 (x2 + 1) (expM μ (12 : Int32)) μ44) → (∃ n p, tpP n p μ44) ∧ K none (expM μ44 (13 : Int32))) ∧ (((μ 23 1) = 16) → (∃ n p, tpP n p μ) ∧ (P0 r1 (x2 + 1) (expM μ (16 : Int32))) ∧ ∀ μ53 : Mem, (R0 r1 (x2 + 1) (expM μ (16 : Int32)) μ53) → (∃ n, n ≤ 160 ∧ μ53 r1 3 = nI n) ∧ K none (textAdd μ53 r1 (23 : Int32)))) ∧ ((¬ ((μ 23 1) = 12)) → K none (failM μ))))) ∧ (((inB (μ 23 1) (6 : Int32) (11 : Int32)) = true) → (∃ n, n ≤ 160 ∧ μ r1 3 = nI n) ∧ (∃ n p, tpP n p (textAdd μ r1 (μ 23 1))) ∧ K none (expM (textAdd μ r1 (μ 23 1)) ((textAdd μ r1 (μ 23 1)) 23 1)))) ∧ (((μ 23 1) = 20) → (∃ n, n ≤ 160 ∧ μ r1 3 = nI n) ∧ (∃ n p, tpP n p (textAdd μ r1 (100 + (μ 24 4)))) ∧ K none (expM (textAdd μ r1 (100 + (μ 24 4))) (20 : Int32)))) : Ev2 G mX2_readOne d 0 [(0, .ref 23), (1, .ref r1), (2, .int x2)] [] μ K := by
  refine ev_aload_n dX2_readOne_0 0 rfl (by decide) ?_
  refine ev_getI' (v := (μ 23 1)) fl_2_18 rfl kd_23 rfl dX2_readOne_1 ?_
  refine ev_bipush (v := 20) dX2_readOne_4 rfl ?_
  refine ev_icmp_ne (tgt := 32) dX2_readOne_6 rfl (fun c1 => ?_) (fun c1 => ?_)
  · have h2 := h.1 c1
    refine ev_aload_n dX2_readOne_32 0 rfl (by decide) ?_
    refine ev_getI' (v := (μ 23 1)) fl_2_18 rfl kd_23 rfl dX2_readOne_33 ?_
    refine ev_bipush (v := 6) dX2_readOne_36 rfl ?_
    refine ev_bipush (v := 11) dX2_readOne_38 rfl ?_
    refine e2_callSN (w := .int (bi (inB (μ 23 1) (6 : Int32) (11 : Int32)))) (μ1 := μ) (as := [.int (μ 23 1), .int 6, .int 11]) (st := []) ok_X7_isWithin sv_X7_isWithin nw_2_78 dX2_readOne_40 rfl rfl (Nat.le_of_ble_eq_true rfl) (Nat.le_of_ble_eq_true rfl) (by omega) (ct_X7_isWithin ((μ 23 1)) (6) (11) μ) ?_
    refine ev_ifeq_bi (tgt := 65) dX2_readOne_43 rfl (fun c4 => ?_) (fun c4 => ?_)
    · have h5 := h2.1 c4
      refine ev_iload_n dX2_readOne_65 2 rfl ?_
      refine ev_iconst (v := 5) dX2_readOne_66 rfl ?_
      refine ev_icmp_ge (tgt := 88) dX2_readOne_67 rfl (fun c7 => ?_) (fun c7 => ?_)
      · have h8 := h5.1 c7
        refine ev_aload_n dX2_readOne_88 0 rfl (by decide) ?_
        refine e2_callVv (μ1 := (failM μ)) (a := 23) (as := []) (st := []) ok_X2_fail vi_X2_fail ml_2_48 hcl_2 kd_23 dX2_readOne_89 rfl rfl (Nat.le_of_ble_eq_true rfl) (Nat.le_of_ble_eq_true rfl) (by omega) (ct_X2_fail μ) ?_
        refine ev_goto (tgt := 147) dX2_readOne_92 rfl ?_
        exact ev_return dX2_readOne_147 rfl rfl rfl ⟨rfl, h8⟩
      · have h9 := h5.2 c7
        refine ev_aload_n dX2_readOne_70 0 rfl (by decide) ?_
        refine ev_getI' (v := (μ 23 1)) fl_2_18 rfl kd_23 rfl dX2_readOne_71 ?_
        refine ev_bipush (v := 16) dX2_readOne_74 rfl ?_
        refine ev_icmp_eq (tgt := 95) dX2_readOne_76 rfl (fun c10 => ?_) (fun c10 => ?_)
        · have h11 := h9.1 c10
          refine ev_aload_n dX2_readOne_95 0 rfl (by decide) ?_
          refine ev_getI' (v := (μ 23 1)) fl_2_18 rfl kd_23 rfl dX2_readOne_96 ?_
          refine ev_bipush (v := 16) dX2_readOne_99 rfl ?_
          refine ev_icmp_ne (tgt := 127) dX2_readOne_101 rfl (fun c13 => ?_) (fun c13 => ?_)
          · have h14 := h11.1 c13
            refine ev_aload_n dX2_readOne_127 0 rfl (by decide) ?_
            refine ev_bipush (v := 12) dX2_readOne_128 rfl ?_
            have p16 := h14.1
            have h17 := h14.2
            refine e2_callVv (μ1 := (expM μ (12 : Int32))) (a := 23) (as := [.int 12]) (st := []) ok_X2_expect vi_X2_expect ml_2_37 hcl_2 kd_23 dX2_readOne_130 rfl rfl (Nat.le_of_ble_eq_true rfl) (Nat.le_of_ble_eq_true rfl) (by omega) (ct_X2_expect (12) μ p16) ?_
            refine ev_aload_n dX2_readOne_133 0 rfl (by decide) ?_
            refine ev_aload_n dX2_readOne_134 1 rfl (nzTx hr1) ?_
            refine ev_iload_n dX2_readOne_135 2 rfl ?_
            refine ev_iconst (v := 1) dX2_readOne_136 rfl ?_
            refine ev_iadd dX2_readOne_137 ?_
            have p18 := h17.1
            have h19 := h17.2
            refine e2_callVrv (Rl := fun μ20 => R6 r1 (x2 + 1) (expM μ (12 : Int32)) μ20) (a := 23) (as := [.ref r1, .int (x2 + 1)]) (st := []) ok_X2_readOr vi_X2_readOr ml_2_41 hcl_2 kd_23 dX2_readOne_138 rfl rfl (Nat.le_of_ble_eq_true rfl) (Nat.le_of_ble_eq_true rfl) (by omega) (ct_X2_readOr  r1 hr1 ((x2 + 1)) (expM μ (12 : Int32)) p18) (fun μ20 r21 => ?_)
            have h22 := h19 μ20 r21
            refine ev_aload_n dX2_readOne_141 0 rfl (by decide) ?_
            refine ev_bipush (v := 13) dX2_readOne_142 rfl ?_
            have p23 := h22.1
            have h24 := h22.2
            refine e2_callVv (μ1 := (expM μ20 (13 : Int32))) (a := 23) (as := [.int 13]) (st := []) ok_X2_expect vi_X2_expect ml_2_37 hcl_2 kd_23 dX2_readOne_144 rfl rfl (Nat.le_of_ble_eq_true rfl) (Nat.le_of_ble_eq_true rfl) (by omega) (ct_X2_expect (13) μ20 p23) ?_
            exact ev_return dX2_readOne_147 rfl rfl rfl ⟨rfl, h24⟩
          · have h15 := h11.2 c13
            refine ev_aload_n dX2_readOne_104 0 rfl (by decide) ?_
            refine ev_bipush (v := 16) dX2_readOne_105 rfl ?_
            have p25 := h15.1
            have h26 := h15.2
            refine e2_callVv (μ1 := (expM μ (16 : Int32))) (a := 23) (as := [.int 16]) (st := []) ok_X2_expect vi_X2_expect ml_2_37 hcl_2 kd_23 dX2_readOne_107 rfl rfl (Nat.le_of_ble_eq_true rfl) (Nat.le_of_ble_eq_true rfl) (by omega) (ct_X2_expect (16) μ p25) ?_
            refine ev_aload_n dX2_readOne_110 0 rfl (by decide) ?_
            refine ev_aload_n dX2_readOne_111 1 rfl (nzTx hr1) ?_
            refine ev_iload_n dX2_readOne_112 2 rfl ?_
            refine ev_iconst (v := 1) dX2_readOne_113 rfl ?_
            refine ev_iadd dX2_readOne_114 ?_
            have p27 := h26.1
            have h28 := h26.2
            refine e2_callVrv (Rl := fun μ29 => R0 r1 (x2 + 1) (expM μ (16 : Int32)) μ29) (a := 23) (as := [.ref r1, .int (x2 + 1)]) (st := []) ok_X2_readOne vi_X2_readOne ml_2_72 hcl_2 kd_23 dX2_readOne_115 rfl rfl (Nat.le_of_ble_eq_true rfl) (Nat.le_of_ble_eq_true rfl) (by omega) (ct_X2_readOne  r1 hr1 ((x2 + 1)) (expM μ (16 : Int32)) p27) (fun μ29 r30 => ?_)
            have h31 := h28 μ29 r30
            refine ev_aload_n dX2_readOne_118 1 rfl (nzTx hr1) ?_
            refine ev_bipush (v := 23) dX2_readOne_119 rfl ?_
            have p32 := h31.1
            have h33 := h31.2
            refine e2_callVv (μ1 := (textAdd μ29 r1 (23 : Int32))) (a := r1) (as := [.int 23]) (st := []) ok_X6_add vi_X6_add ml_2_57 hcl_6 (kdTx hr1) dX2_readOne_121 rfl rfl (Nat.le_of_ble_eq_true rfl) (Nat.le_of_ble_eq_true rfl) (by omega) (ct_X6_add r1 hr1 (23) μ29 p32) ?_
            refine ev_goto (tgt := 147) dX2_readOne_124 rfl ?_
            exact ev_return dX2_readOne_147 rfl rfl rfl ⟨rfl, h33⟩
        · have h12 := h9.2 c10
          refine ev_aload_n dX2_readOne_79 0 rfl (by decide) ?_
          refine ev_getI' (v := (μ 23 1)) fl_2_18 rfl kd_23 rfl dX2_readOne_80 ?_
          refine ev_bipush (v := 12) dX2_readOne_83 rfl ?_
          refine ev_icmp_eq (tgt := 95) dX2_readOne_85 rfl (fun c34 => ?_) (fun c34 => ?_)
          · have h35 := h12.1 c34
            refine ev_aload_n dX2_readOne_95 0 rfl (by decide) ?_
            refine ev_getI' (v := (μ 23 1)) fl_2_18 rfl kd_23 rfl dX2_readOne_96 ?_
            refine ev_bipush (v := 16) dX2_readOne_99 rfl ?_
            refine ev_icmp_ne (tgt := 127) dX2_readOne_101 rfl (fun c37 => ?_) (fun c37 => ?_)
            · have h38 := h35.1 c37
              refine ev_aload_n dX2_readOne_127 0 rfl (by decide) ?_
              refine ev_bipush (v := 12) dX2_readOne_128 rfl ?_
              have p40 := h38.1
              have h41 := h38.2
              refine e2_callVv (μ1 := (expM μ (12 : Int32))) (a := 23) (as := [.int 12]) (st := []) ok_X2_expect vi_X2_expect ml_2_37 hcl_2 kd_23 dX2_readOne_130 rfl rfl (Nat.le_of_ble_eq_true rfl) (Nat.le_of_ble_eq_true rfl) (by omega) (ct_X2_expect (12) μ p40) ?_
              refine ev_aload_n dX2_readOne_133 0 rfl (by decide) ?_
              refine ev_aload_n dX2_readOne_134 1 rfl (nzTx hr1) ?_
              refine ev_iload_n dX2_readOne_135 2 rfl ?_
              refine ev_iconst (v := 1) dX2_readOne_136 rfl ?_
              refine ev_iadd dX2_readOne_137 ?_
              have p42 := h41.1
              have h43 := h41.2
              refine e2_callVrv (Rl := fun μ44 => R6 r1 (x2 + 1) (expM μ (12 : Int32)) μ44) (a := 23) (as := [.ref r1, .int (x2 + 1)]) (st := []) ok_X2_readOr vi_X2_readOr ml_2_41 hcl_2 kd_23 dX2_readOne_138 rfl rfl (Nat.le_of_ble_eq_true rfl) (Nat.le_of_ble_eq_true rfl) (by omega) (ct_X2_readOr  r1 hr1 ((x2 + 1)) (expM μ (12 : Int32)) p42) (fun μ44 r45 => ?_)
              have h46 := h43 μ44 r45
              refine ev_aload_n dX2_readOne_141 0 rfl (by decide) ?_
              refine ev_bipush (v := 13) dX2_readOne_142 rfl ?_
              have p47 := h46.1
              have h48 := h46.2
              refine e2_callVv (μ1 := (expM μ44 (13 : Int32))) (a := 23) (as := [.int 13]) (st := []) ok_X2_expect vi_X2_expect ml_2_37 hcl_2 kd_23 dX2_readOne_144 rfl rfl (Nat.le_of_ble_eq_true rfl) (Nat.le_of_ble_eq_true rfl) (by omega) (ct_X2_expect (13) μ44 p47) ?_
              exact ev_return dX2_readOne_147 rfl rfl rfl ⟨rfl, h48⟩
            · have h39 := h35.2 c37
              refine ev_aload_n dX2_readOne_104 0 rfl (by decide) ?_
              refine ev_bipush (v := 16) dX2_readOne_105 rfl ?_
              have p49 := h39.1
              have h50 := h39.2
              refine e2_callVv (μ1 := (expM μ (16 : Int32))) (a := 23) (as := [.int 16]) (st := []) ok_X2_expect vi_X2_expect ml_2_37 hcl_2 kd_23 dX2_readOne_107 rfl rfl (Nat.le_of_ble_eq_true rfl) (Nat.le_of_ble_eq_true rfl) (by omega) (ct_X2_expect (16) μ p49) ?_
              refine ev_aload_n dX2_readOne_110 0 rfl (by decide) ?_
              refine ev_aload_n dX2_readOne_111 1 rfl (nzTx hr1) ?_
              refine ev_iload_n dX2_readOne_112 2 rfl ?_
              refine ev_iconst (v := 1) dX2_readOne_113 rfl ?_
              refine ev_iadd dX2_readOne_114 ?_
              have p51 := h50.1
              have h52 := h50.2
              refine e2_callVrv (Rl := fun μ53 => R0 r1 (x2 + 1) (expM μ (16 : Int32)) μ53) (a := 23) (as := [.ref r1, .int (x2 + 1)]) (st := []) ok_X2_readOne vi_X2_readOne ml_2_72 hcl_2 kd_23 dX2_readOne_115 rfl rfl (Nat.le_of_ble_eq_true rfl) (Nat.le_of_ble_eq_true rfl) (by omega) (ct_X2_readOne  r1 hr1 ((x2 + 1)) (expM μ (16 : Int32)) p51) (fun μ53 r54 => ?_)
              have h55 := h52 μ53 r54
              refine ev_aload_n dX2_readOne_118 1 rfl (nzTx hr1) ?_
              refine ev_bipush (v := 23) dX2_readOne_119 rfl ?_
              have p56 := h55.1
              have h57 := h55.2
              refine e2_callVv (μ1 := (textAdd μ53 r1 (23 : Int32))) (a := r1) (as := [.int 23]) (st := []) ok_X6_add vi_X6_add ml_2_57 hcl_6 (kdTx hr1) dX2_readOne_121 rfl rfl (Nat.le_of_ble_eq_true rfl) (Nat.le_of_ble_eq_true rfl) (by omega) (ct_X6_add r1 hr1 (23) μ53 p56) ?_
              refine ev_goto (tgt := 147) dX2_readOne_124 rfl ?_
              exact ev_return dX2_readOne_147 rfl rfl rfl ⟨rfl, h57⟩
          · have h36 := h12.2 c34
            refine ev_aload_n dX2_readOne_88 0 rfl (by decide) ?_
            refine e2_callVv (μ1 := (failM μ)) (a := 23) (as := []) (st := []) ok_X2_fail vi_X2_fail ml_2_48 hcl_2 kd_23 dX2_readOne_89 rfl rfl (Nat.le_of_ble_eq_true rfl) (Nat.le_of_ble_eq_true rfl) (by omega) (ct_X2_fail μ) ?_
            refine ev_goto (tgt := 147) dX2_readOne_92 rfl ?_
            exact ev_return dX2_readOne_147 rfl rfl rfl ⟨rfl, h36⟩
    · have h6 := h2.2 c4
      refine ev_aload_n dX2_readOne_46 1 rfl (nzTx hr1) ?_
      refine ev_aload_n dX2_readOne_47 0 rfl (by decide) ?_
      refine ev_getI' (v := (μ 23 1)) fl_2_18 rfl kd_23 rfl dX2_readOne_48 ?_
      have p58 := h6.1
      have h59 := h6.2
      refine e2_callVv (μ1 := (textAdd μ r1 (μ 23 1))) (a := r1) (as := [.int (μ 23 1)]) (st := []) ok_X6_add vi_X6_add ml_2_57 hcl_6 (kdTx hr1) dX2_readOne_51 rfl rfl (Nat.le_of_ble_eq_true rfl) (Nat.le_of_ble_eq_true rfl) (by omega) (ct_X6_add r1 hr1 ((μ 23 1)) μ p58) ?_
      refine ev_aload_n dX2_readOne_54 0 rfl (by decide) ?_
      refine ev_aload_n dX2_readOne_55 0 rfl (by decide) ?_
      refine ev_getI' (v := ((textAdd μ r1 (μ 23 1)) 23 1)) fl_2_18 rfl kd_23 rfl dX2_readOne_56 ?_
      have p60 := h59.1
      have h61 := h59.2
      refine e2_callVv (μ1 := (expM (textAdd μ r1 (μ 23 1)) ((textAdd μ r1 (μ 23 1)) 23 1))) (a := 23) (as := [.int ((textAdd μ r1 (μ 23 1)) 23 1)]) (st := []) ok_X2_expect vi_X2_expect ml_2_37 hcl_2 kd_23 dX2_readOne_59 rfl rfl (Nat.le_of_ble_eq_true rfl) (Nat.le_of_ble_eq_true rfl) (by omega) (ct_X2_expect (((textAdd μ r1 (μ 23 1)) 23 1)) (textAdd μ r1 (μ 23 1)) p60) ?_
      refine ev_goto (tgt := 147) dX2_readOne_62 rfl ?_
      exact ev_return dX2_readOne_147 rfl rfl rfl ⟨rfl, h61⟩
  · have h3 := h.2 c1
    refine ev_aload_n dX2_readOne_9 1 rfl (nzTx hr1) ?_
    refine ev_bipush (v := 100) dX2_readOne_10 rfl ?_
    refine ev_aload_n dX2_readOne_12 0 rfl (by decide) ?_
    refine ev_getR' fl_2_12 rfl kd_23 rf_23_0 dX2_readOne_13 ?_
    refine ev_getI' (v := (μ 24 4)) fl_2_75 rfl kd_24 rfl dX2_readOne_16 ?_
    refine ev_iadd dX2_readOne_19 ?_
    have p62 := h3.1
    have h63 := h3.2
    refine e2_callVv (μ1 := (textAdd μ r1 (100 + (μ 24 4)))) (a := r1) (as := [.int (100 + (μ 24 4))]) (st := []) ok_X6_add vi_X6_add ml_2_57 hcl_6 (kdTx hr1) dX2_readOne_20 rfl rfl (Nat.le_of_ble_eq_true rfl) (Nat.le_of_ble_eq_true rfl) (by omega) (ct_X6_add r1 hr1 ((100 + (μ 24 4))) μ p62) ?_
    refine ev_aload_n dX2_readOne_23 0 rfl (by decide) ?_
    refine ev_bipush (v := 20) dX2_readOne_24 rfl ?_
    have p64 := h63.1
    have h65 := h63.2
    refine e2_callVv (μ1 := (expM (textAdd μ r1 (100 + (μ 24 4))) (20 : Int32))) (a := 23) (as := [.int 20]) (st := []) ok_X2_expect vi_X2_expect ml_2_37 hcl_2 kd_23 dX2_readOne_26 rfl rfl (Nat.le_of_ble_eq_true rfl) (Nat.le_of_ble_eq_true rfl) (by omega) (ct_X2_expect (20) (textAdd μ r1 (100 + (μ 24 4))) p64) ?_
    refine ev_goto (tgt := 147) dX2_readOne_29 rfl ?_
    exact ev_return dX2_readOne_147 rfl rfl rfl ⟨rfl, h65⟩
theorem lp_X2_readTerm {G : GW} {F : Nat} (hA : ∀ F', F' < F → MC G mX2_readOne F' 0) {f : Nat → Int32} {n t k o d : Nat} (ht : isTx t) (ho : o ≤ 5) (hd : 20 + 8 * (5 - o) + 1 ≤ d) : ∀ j, j ≤ F → ∀ (i m : Nat) (s : Bool × Nat) (r : (Bool × Nat) × List Int32) (μ : Mem), rd (tkT f n) (nvT f n) j 11 o s = some r → rdA f n t k m s μ → i ≤ 160 → (s.1 = true → i ≤ s.2) → Ev2 G mX2_readTerm d 8 [(0, .ref 23), (1, .ref t), (2, .int (nI o)), (3, .int (nI i))] [] μ (fun v ν => v = none ∧ rdC f n t k m s r.1 r.2 μ ν) := by
  intro j
  induction j with
  | zero =>
    intro _ i m s r μ hr
    rw [rd] at hr
    cases hr
  | succ j ih =>
    intro hj i m s r μ hr ha hi160 hi
    rw [rd_11] at hr
    have e23 := ha.tk
    rcases rdLoop_some hr with ⟨c, rfl⟩ | ⟨c, r1, r2, h1, h2, rfl⟩
    · have c : ¬ tkS (tkT f n) s = 17 := by simpa [op17] using c
      refine sg_X2_readTerm_8 (by omega) MC.no ht ⟨fun _ => ⟨rfl, ha.nil⟩, fun _ => ⟨fun _ => ⟨rfl, ha.nil⟩, fun q => absurd (e23.symm.trans q) c⟩⟩
    · have c : tkS (tkT f n) s = 17 := by simpa [op17] using c
      obtain ⟨hs, hm, h160, ht1, hf1⟩ := ha.take ht c (by decide) (by decide)
      refine sg_X2_readTerm_8 (by omega) ((hA j (by omega)).at (d := d - 1) ho (by omega) h1 ht1) ht ⟨fun q => absurd q (nI_ge (b := 160) (by have := hi hs; omega) (by omega)), fun _ => ⟨fun q => absurd (e23.trans c) q, fun _ => ⟨ha.tp, ⟨rfl, rfl, rfl⟩, fun ν hν => ⟨hν.sz, ?_⟩⟩⟩⟩
      have hν2 := hν.add ht 17
      obtain ⟨m1, g1, g2, g3⟩ := hν2.on
      rw [nI_1]
      have hx := ih (by omega) (i + 1) m1 r1.1 r2 _ h2 g3 (by have := hi hs; omega) (fun q => by have h7 : s.2 + 1 ≤ r1.1.2 := (hν.2.2.2 q).2.1; have := hi hs; omega)
      refine ev2_imp hx ?_
      rintro v ξ ⟨hv, hξ⟩
      refine ⟨hv, ?_⟩
      have hj := (hν2.join g1 g2 hξ).pre hf1 (s := s) (fun _ => ⟨hs, by show s.2 ≤ s.2 + 1; omega⟩)
      rw [List.append_assoc] at hj
      rw [c]
      exact hj
theorem lp_X2_readAnd {G : GW} {F : Nat} (hA : ∀ F', F' < F → MC G mX2_readNot F' 4) {f : Nat → Int32} {n t k o d : Nat} (ht : isTx t) (ho : o ≤ 5) (hd : 20 + 8 * (5 - o) + 5 ≤ d) : ∀ j, j ≤ F → ∀ (i m : Nat) (s : Bool × Nat) (r : (Bool × Nat) × List Int32) (μ : Mem), rd (tkT f n) (nvT f n) j 15 o s = some r → rdA f n t k m s μ → i ≤ 160 → (s.1 = true → i ≤ s.2) → Ev2 G mX2_readAnd d 8 [(0, .ref 23), (1, .ref t), (2, .int (nI o)), (3, .int (nI i))] [] μ (fun v ν => v = none ∧ rdC f n t k m s r.1 r.2 μ ν) := by
  intro j
  induction j with
  | zero =>
    intro _ i m s r μ hr
    rw [rd] at hr
    cases hr
  | succ j ih =>
    intro hj i m s r μ hr ha hi160 hi
    rw [rd_15] at hr
    have e23 := ha.tk
    rcases rdLoop_some hr with ⟨c, rfl⟩ | ⟨c, r1, r2, h1, h2, rfl⟩
    · have c : ¬ tkS (tkT f n) s = 4 := by simpa [op4] using c
      refine sg_X2_readAnd_8 (by omega) MC.no ht ⟨fun _ => ⟨rfl, ha.nil⟩, fun _ => ⟨fun _ => ⟨rfl, ha.nil⟩, fun q => absurd (e23.symm.trans q) c⟩⟩
    · have c : tkS (tkT f n) s = 4 := by simpa [op4] using c
      obtain ⟨hs, hm, h160, ht1, hf1⟩ := ha.take ht c (by decide) (by decide)
      refine sg_X2_readAnd_8 (by omega) ((hA j (by omega)).at (d := d - 1) ho (by omega) h1 ht1) ht ⟨fun q => absurd q (nI_ge (b := 160) (by have := hi hs; omega) (by omega)), fun _ => ⟨fun q => absurd (e23.trans c) q, fun _ => ⟨ha.tp, ⟨rfl, rfl, rfl⟩, fun ν hν => ⟨hν.sz, ?_⟩⟩⟩⟩
      have hν2 := hν.add ht 4
      obtain ⟨m1, g1, g2, g3⟩ := hν2.on
      rw [nI_1]
      have hx := ih (by omega) (i + 1) m1 r1.1 r2 _ h2 g3 (by have := hi hs; omega) (fun q => by have h7 : s.2 + 1 ≤ r1.1.2 := (hν.2.2.2 q).2.1; have := hi hs; omega)
      refine ev2_imp hx ?_
      rintro v ξ ⟨hv, hξ⟩
      refine ⟨hv, ?_⟩
      have hj := (hν2.join g1 g2 hξ).pre hf1 (s := s) (fun _ => ⟨hs, by show s.2 ≤ s.2 + 1; omega⟩)
      rw [List.append_assoc] at hj
      rw [c]
      exact hj
theorem lp_X2_readOr {G : GW} {F : Nat} (hA : ∀ F', F' < F → MC G mX2_readAnd F' 5) {f : Nat → Int32} {n t k o d : Nat} (ht : isTx t) (ho : o ≤ 5) (hd : 20 + 8 * (5 - o) + 6 ≤ d) : ∀ j, j ≤ F → ∀ (i m : Nat) (s : Bool × Nat) (r : (Bool × Nat) × List Int32) (μ : Mem), rd (tkT f n) (nvT f n) j 16 o s = some r → rdA f n t k m s μ → i ≤ 160 → (s.1 = true → i ≤ s.2) → Ev2 G mX2_readOr d 8 [(0, .ref 23), (1, .ref t), (2, .int (nI o)), (3, .int (nI i))] [] μ (fun v ν => v = none ∧ rdC f n t k m s r.1 r.2 μ ν) := by
  intro j
  induction j with
  | zero =>
    intro _ i m s r μ hr
    rw [rd] at hr
    cases hr
  | succ j ih =>
    intro hj i m s r μ hr ha hi160 hi
    rw [rd_16] at hr
    have e23 := ha.tk
    rcases rdLoop_some hr with ⟨c, rfl⟩ | ⟨c, r1, r2, h1, h2, rfl⟩
    · have c : ¬ tkS (tkT f n) s = 3 := by simpa [op3] using c
      refine sg_X2_readOr_8 (by omega) MC.no ht ⟨fun _ => ⟨rfl, ha.nil⟩, fun _ => ⟨fun _ => ⟨rfl, ha.nil⟩, fun q => absurd (e23.symm.trans q) c⟩⟩
    · have c : tkS (tkT f n) s = 3 := by simpa [op3] using c
      obtain ⟨hs, hm, h160, ht1, hf1⟩ := ha.take ht c (by decide) (by decide)
      refine sg_X2_readOr_8 (by omega) ((hA j (by omega)).at (d := d - 1) ho (by omega) h1 ht1) ht ⟨fun q => absurd q (nI_ge (b := 160) (by have := hi hs; omega) (by omega)), fun _ => ⟨fun q => absurd (e23.trans c) q, fun _ => ⟨ha.tp, ⟨rfl, rfl, rfl⟩, fun ν hν => ⟨hν.sz, ?_⟩⟩⟩⟩
      have hν2 := hν.add ht 3
      obtain ⟨m1, g1, g2, g3⟩ := hν2.on
      rw [nI_1]
      have hx := ih (by omega) (i + 1) m1 r1.1 r2 _ h2 g3 (by have := hi hs; omega) (fun q => by have h7 : s.2 + 1 ≤ r1.1.2 := (hν.2.2.2 q).2.1; have := hi hs; omega)
      refine ev2_imp hx ?_
      rintro v ξ ⟨hv, hξ⟩
      refine ⟨hv, ?_⟩
      have hj := (hν2.join g1 g2 hξ).pre hf1 (s := s) (fun _ => ⟨hs, by show s.2 ≤ s.2 + 1; omega⟩)
      rw [List.append_assoc] at hj
      rw [c]
      exact hj
