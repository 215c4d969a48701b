/-! ===== the class's text() ===== -/
section CG
variable {f g : Nat → Int32} {n : Nat}
theorem skT_cg (h : ∀ k, k < n → f k = g k) : ∀ j p, p + j ≤ n → skT f j p = skT g j p := by
  intro j
  induction j with
  | zero => intro p _; rfl
  | succ j ih =>
    intro p hp
    unfold skT
    rw [h p (by omega), ih (p + 1) (by omega)]
theorem rnT_cg (b : Int32 → Bool) (h : ∀ k, k < n → f k = g k) : ∀ j p, p + j ≤ n → rnT b f j p = rnT b g j p := by
  intro j
  induction j with
  | zero => intro p _; rfl
  | succ j ih =>
    intro p hp
    unfold rnT
    rw [h p (by omega), ih (p + 1) (by omega)]
theorem nmT_cg (h : ∀ k, k < n → f k = g k) : ∀ j p v, p + j ≤ n → nmT f j p v = nmT g j p v := by
  intro j
  induction j with
  | zero => intro p v _; rfl
  | succ j ih =>
    intro p v hp
    unfold nmT
    rw [h p (by omega), ih (p + 1) _ (by omega)]
theorem wdB_cg (h : ∀ k, k < n → f k = g k) {s l w : Nat} (hs : s + l ≤ n) : ∀ i, wdB f s l w i = wdB g s l w i := by
  intro i
  induction i with
  | zero => rfl
  | succ i ih =>
    unfold wdB
    rw [ih]
    by_cases c : i < l
    · rw [if_pos c, if_pos c, h (s + i) (by omega)]
    · rw [if_neg c, if_neg c]
theorem wdI_cg (h : ∀ k, k < n → f k = g k) {s l : Nat} (hs : s + l ≤ n) : ∀ j, wdI f s l j = wdI g s l j := by
  intro j
  induction j with
  | zero => rfl
  | succ j ih =>
    unfold wdI isWd
    rw [ih, wdB_cg h hs]
theorem tkK_cg (h : ∀ k, k < n → f k = g k) (s : Nat) : tkK f n s = tkK g n s ∧ tkE f n s = tkE g n s := by
  unfold tkK tkE
  by_cases c : s < n
  · have hr := rnT_le letB g (n - s) s
    rw [if_pos c, if_pos c, if_pos c, if_pos c, h s c, rnT_cg letB h (n - s) s (by omega), rnT_cg digB h (n - s) s (by omega), wdI_cg h (by omega)]
    exact ⟨rfl, rfl⟩
  · rw [if_neg c, if_neg c, if_neg c, if_neg c]
    exact ⟨rfl, rfl⟩
theorem plT_cg (h : ∀ k, k < n → f k = g k) : ∀ i, plT f n i = plT g n i := by
  intro i
  induction i with
  | zero => rfl
  | succ i ih =>
    have := plT_le g n i
    unfold plT skp
    rw [ih, skT_cg h _ _ (by omega), (tkK_cg h _).2]
theorem stT_cg (h : ∀ k, k < n → f k = g k) (i : Nat) : stT f n i = stT g n i := by
  have := plT_le g n i
  unfold stT skp
  rw [plT_cg h, skT_cg h _ _ (by omega)]
theorem tkT_cg (h : ∀ k, k < n → f k = g k) : tkT f n = tkT g n := by
  funext i
  unfold tkT
  rw [stT_cg h, (tkK_cg h _).1]
theorem nvT_cg (h : ∀ k, k < n → f k = g k) : nvT f n = nvT g n := by
  funext i
  have := (stT_le g n i).2
  unfold nvT
  rw [stT_cg h, nmT_cg h _ _ _ (by omega)]
end CG
def outT (f : Nat → Int32) (n : Nat) (s : Bool × Nat) : Int32 := if s.1 = true then -1 else nI (stT f n s.2)
def rdPre (μ : Mem) : Prop := ∃ n, n ≤ 160 ∧ μ 24 1 = nI n
/-- rows that reading a text leaves alone -/
def FrR (t : Nat) (μ ν : Mem) : Prop := (∀ a, a ≠ 23 → a ≠ 24 → a ≠ t → a ≠ t + 1 → a ≠ t + 2 → ν a = μ a) ∧ ∀ k, k ≠ 2 → k ≠ 3 → k ≠ 4 → ν 24 k = μ 24 k
def rdRel (μ : Mem) (t : Nat) (x : Int32) (ν : Mem) : Prop := ∀ n r, n ≤ 160 → μ 24 1 = nI n → rdAll (tkT (μ 25) n) (nvT (μ 25) n) = some r → x = outT (μ 25) n r.1 ∧ FrR t μ ν ∧ (r.1.1 = true → r.2.1.length + r.2.2.1.length + r.2.2.2.length ≤ 160 ∧ ν (t + 2) 0 = nI r.2.1.length ∧ ν (t + 2) 1 = nI (r.2.1.length + r.2.2.1.length) ∧ ν (t + 2) 2 = nI (r.2.1.length + r.2.2.1.length + r.2.2.2.length) ∧ (∀ i, i < r.2.1.length → ν (t + 1) i = r.2.1.getD i 0) ∧ (∀ i, i < r.2.2.1.length → ν (t + 1) (r.2.1.length + i) = r.2.2.1.getD i 0) ∧ ∀ i, i < r.2.2.2.length → ν (t + 1) (r.2.1.length + r.2.2.1.length + i) = r.2.2.2.getD i 0)
theorem sg_X2_read_0 {G : GW} {K : Option Value → Mem → Prop} {μ : Mem} {d : Nat} (hd : 20 ≤ d) {P6 : Nat → Int32 → Mem → Prop} {R6 : Nat → Int32 → Mem → Mem → Prop} (ct_X2_readOr : ∀ t : Nat, isTx t → ∀ (x : Int32) (μ : Mem), P6 t x μ → Ev2 G mX2_readOr (d - 1) 0 [(0, .ref 23), (1, .ref t), (2, .int x)] [] μ (fun v μ' => v = none ∧ R6 t x μ μ')){r1 : Nat} (hr1 : isTx r1) (h : (∃ n p, tpP n p (mset (mset (mset μ 23 2 (-1)) 24 2 0) r1 3 0)) ∧ Ev2 G mX2_read d 29 [(0, .ref 23), (1, .ref r1), (2, .int 0)] [] (mset (nxM (mset (mset (mset μ 23 2 (-1)) 24 2 0) r1 3 0) (nN (mset (mset (mset μ 23 2 (-1)) 24 2 0) r1 3 0)) (skp ((mset (mset (mset μ 23 2 (-1)) 24 2 0) r1 3 0) 25) (nN (mset (mset (mset μ 23 2 (-1)) 24 2 0) r1 3 0)) (pN (mset (mset (mset μ 23 2 (-1)) 24 2 0) r1 3 0)))) 23 1 (tkK ((mset (mset (mset μ 23 2 (-1)) 24 2 0) r1 3 0) 25) (nN (mset (mset (mset μ 23 2 (-1)) 24 2 0) r1 3 0)) (skp ((mset (mset (mset μ 23 2 (-1)) 24 2 0) r1 3 0) 25) (nN (mset (mset (mset μ 23 2 (-1)) 24 2 0) r1 3 0)) (pN (mset (mset (mset μ 23 2 (-1)) 24 2 0) r1 3 0))))) K) : Ev2 G mX2_read d 0 [(0, .ref 23), (1, .ref r1)] [] μ K := by
  refine ev_aload_n dX2_read_0 0 rfl (by decide) ?_
  refine ev_iconst (v := (-1)) dX2_read_1 rfl ?_
  refine ev_putI fl_2_22 ⟨rfl, rfl, rfl⟩ (fun r hr => by cases hr; rfl) kd_23 dX2_read_2 ?_
  refine ev_aload_n dX2_read_5 0 rfl (by decide) ?_
  refine ev_getR' fl_2_12 rfl kd_23 rf_23_0 dX2_read_6 ?_
  refine e2_callVv (μ1 := (mset (mset μ 23 2 (-1)) 24 2 0)) (a := 24) (as := []) (st := []) ok_X5_rewind vi_X5_rewind ml_2_25 hcl_5 kd_24 dX2_read_9 rfl rfl (Nat.le_of_ble_eq_true rfl) (Nat.le_of_ble_eq_true rfl) (by omega) (ct_X5_rewind (mset μ 23 2 (-1))) ?_
  refine ev_aload_n dX2_read_12 1 rfl (nzTx hr1) ?_
  refine e2_callVv (μ1 := (mset (mset (mset μ 23 2 (-1)) 24 2 0) r1 3 0)) (a := r1) (as := []) (st := []) ok_X6_clear vi_X6_clear ml_2_28 hcl_6 (kdTx hr1) dX2_read_13 rfl rfl (Nat.le_of_ble_eq_true rfl) (Nat.le_of_ble_eq_true rfl) (by omega) (ct_X6_clear r1 hr1 (mset (mset μ 23 2 (-1)) 24 2 0)) ?_
  refine ev_aload_n dX2_read_16 0 rfl (by decide) ?_
  refine ev_aload_n dX2_read_17 0 rfl (by decide) ?_
  refine ev_getR' fl_2_12 rfl kd_23 rf_23_0 dX2_read_18 ?_
  have p1 := h.1
  have h2 := h.2
  refine e2_callV (w := .int (tkK ((mset (mset (mset μ 23 2 (-1)) 24 2 0) r1 3 0) 25) (nN (mset (mset (mset μ 23 2 (-1)) 24 2 0) r1 3 0)) (skp ((mset (mset (mset μ 23 2 (-1)) 24 2 0) r1 3 0) 25) (nN (mset (mset (mset μ 23 2 (-1)) 24 2 0) r1 3 0)) (pN (mset (mset (mset μ 23 2 (-1)) 24 2 0) r1 3 0))))) (μ1 := (nxM (mset (mset (mset μ 23 2 (-1)) 24 2 0) r1 3 0) (nN (mset (mset (mset μ 23 2 (-1)) 24 2 0) r1 3 0)) (skp ((mset (mset (mset μ 23 2 (-1)) 24 2 0) r1 3 0) 25) (nN (mset (mset (mset μ 23 2 (-1)) 24 2 0) r1 3 0)) (pN (mset (mset (mset μ 23 2 (-1)) 24 2 0) r1 3 0))))) (a := 24) (as := []) (st := [.ref 23]) ok_X5_next vi_X5_next ml_2_33 hcl_5 kd_24 dX2_read_21 rfl rfl (Nat.le_of_ble_eq_true rfl) (Nat.le_of_ble_eq_true rfl) (by omega) (ct_X5_next (mset (mset (mset μ 23 2 (-1)) 24 2 0) r1 3 0) p1) ?_
  refine ev_putI fl_2_18 ⟨rfl, rfl, rfl⟩ (fun r hr => by cases hr; rfl) kd_23 dX2_read_24 ?_
  refine ev_iconst (v := 0) dX2_read_27 rfl ?_
  refine ev_istore_n (lv' := [(0, .ref 23), (1, .ref r1), (2, .int 0)]) dX2_read_28 (by decide) [1, 2, 0] rfl ?_
  exact h2
theorem sg_X2_read_29 {G : GW} {K : Option Value → Mem → Prop} {μ : Mem} {d : Nat} (hd : 20 ≤ d) {P6 : Nat → Int32 → Mem → Prop} {R6 : Nat → Int32 → Mem → Mem → Prop} (ct_X2_readOr : ∀ t : Nat, isTx t → ∀ (x : Int32) (μ : Mem), P6 t x μ → Ev2 G mX2_readOr (d - 1) 0 [(0, .ref 23), (1, .ref t), (2, .int x)] [] μ (fun v μ' => v = none ∧ R6 t x μ μ')){r1 : Nat} {x2 : Int32} (hr1 : isTx r1) (h : ((3 ≤ x2) → (∃ n p, tpP n p μ) ∧ K (some (.int ((expM μ (21 : Int32)) 23 2))) (expM μ (21 : Int32))) ∧ ((¬ (3 ≤ x2)) → (∃ n p, tpP n p μ) ∧ (P6 r1 (0 : Int32) (expM μ (0 + x2))) ∧ ∀ μ10 : Mem, (R6 r1 (0 : Int32) (expM μ (0 + x2)) μ10) → (∃ n p, tpP n p μ10) ∧ (vp_in x2 3) ∧ Ev2 G mX2_read d 29 [(0, .ref 23), (1, .ref r1), (2, .int (x2 + 1))] [] (mset (expM μ10 (14 : Int32)) (r1 + 2) x2.toNatClampNeg ((expM μ10 (14 : Int32)) r1 3)) K)) : Ev2 G mX2_read d 29 [(0, .ref 23), (1, .ref r1), (2, .int x2)] [] μ K := by
  refine ev_iload_n dX2_read_29 2 rfl ?_
  refine ev_iconst (v := 3) dX2_read_30 rfl ?_
  refine ev_icmp_ge (tgt := 64) dX2_read_31 rfl (fun c1 => ?_) (fun c1 => ?_)
  · have h2 := h.1 c1
    refine ev_aload_n dX2_read_64 0 rfl (by decide) ?_
    refine ev_bipush (v := 21) dX2_read_65 rfl ?_
    have p4 := h2.1
    have h5 := h2.2
    refine e2_callVv (μ1 := (expM μ (21 : Int32))) (a := 23) (as := [.int 21]) (st := []) ok_X2_expect vi_X2_expect ml_2_37 hcl_2 kd_23 dX2_read_67 rfl rfl (Nat.le_of_ble_eq_true rfl) (Nat.le_of_ble_eq_true rfl) (by omega) (ct_X2_expect (21) μ p4) ?_
    refine ev_aload_n dX2_read_70 0 rfl (by decide) ?_
    refine ev_getI' (v := ((expM μ (21 : Int32)) 23 2)) fl_2_22 rfl kd_23 rfl dX2_read_71 ?_
    exact ev_ireturn dX2_read_74 rfl True.intro rfl rfl ⟨rfl, h5⟩
  · have h3 := h.2 c1
    refine ev_aload_n dX2_read_34 0 rfl (by decide) ?_
    refine ev_iconst (v := 0) dX2_read_35 rfl ?_
    refine ev_iload_n dX2_read_36 2 rfl ?_
    refine ev_iadd dX2_read_37 ?_
    have p6 := h3.1
    have h7 := h3.2
    refine e2_callVv (μ1 := (expM μ (0 + x2))) (a := 23) (as := [.int (0 + x2)]) (st := []) ok_X2_expect vi_X2_expect ml_2_37 hcl_2 kd_23 dX2_read_38 rfl rfl (Nat.le_of_ble_eq_true rfl) (Nat.le_of_ble_eq_true rfl) (by omega) (ct_X2_expect ((0 + x2)) μ p6) ?_
    refine ev_aload_n dX2_read_41 0 rfl (by decide) ?_
    refine ev_aload_n dX2_read_42 1 rfl (nzTx hr1) ?_
    refine ev_iconst (v := 0) dX2_read_43 rfl ?_
    have p8 := h7.1
    have h9 := h7.2
    refine e2_callVrv (Rl := fun μ10 => R6 r1 (0 : Int32) (expM μ (0 + x2)) μ10) (a := 23) (as := [.ref r1, .int 0]) (st := []) ok_X2_readOr vi_X2_readOr ml_2_41 hcl_2 kd_23 dX2_read_44 rfl rfl (Nat.le_of_ble_eq_true rfl) (Nat.le_of_ble_eq_true rfl) (by omega) (ct_X2_readOr  r1 hr1 (0) (expM μ (0 + x2)) p8) (fun μ10 r11 => ?_)
    have h12 := h9 μ10 r11
    refine ev_aload_n dX2_read_47 0 rfl (by decide) ?_
    refine ev_bipush (v := 14) dX2_read_48 rfl ?_
    have p13 := h12.1
    have h14 := h12.2
    refine e2_callVv (μ1 := (expM μ10 (14 : Int32))) (a := 23) (as := [.int 14]) (st := []) ok_X2_expect vi_X2_expect ml_2_37 hcl_2 kd_23 dX2_read_50 rfl rfl (Nat.le_of_ble_eq_true rfl) (Nat.le_of_ble_eq_true rfl) (by omega) (ct_X2_expect (14) μ10 p13) ?_
    refine ev_aload_n dX2_read_53 1 rfl (nzTx hr1) ?_
    refine ev_iload_n dX2_read_54 2 rfl ?_
    have p15 := h14.1
    have h16 := h14.2
    refine e2_callVv (μ1 := (mset (expM μ10 (14 : Int32)) (r1 + 2) x2.toNatClampNeg ((expM μ10 (14 : Int32)) r1 3))) (a := r1) (as := [.int x2]) (st := []) ok_X6_endPart vi_X6_endPart ml_2_45 hcl_6 (kdTx hr1) dX2_read_55 rfl rfl (Nat.le_of_ble_eq_true rfl) (Nat.le_of_ble_eq_true rfl) (by omega) (ct_X6_endPart r1 hr1 (x2) (expM μ10 (14 : Int32)) p15) ?_
    refine ev_iinc (v := (x2 + 1)) (lv' := [(0, .ref 23), (1, .ref r1), (2, .int (x2 + 1))]) dX2_read_58 2 rfl rfl (by decide) [1, 2, 0] rfl ?_
    refine ev_goto (tgt := 29) dX2_read_61 rfl ?_
    exact h16
def FrP (t m p : Nat) (μ ν : Mem) : Prop := (∀ a, a ≠ 23 → a ≠ 24 → a ≠ t → a ≠ t + 1 → a ≠ t + 2 → ν a = μ a) ∧ (∀ k, k ≠ 2 → k ≠ 3 → k ≠ 4 → ν 24 k = μ 24 k) ∧ (∀ k, k < m → ν (t + 1) k = μ (t + 1) k) ∧ ∀ q, q < p → ν (t + 2) q = μ (t + 2) q
theorem wd_no {p : Nat} (hp : p < 3) : nI p ≠ 22 ∧ nI p ≠ 21 := ⟨nI_ne (b := 22) (by omega) (by omega) (by omega), nI_ne (b := 21) (by omega) (by omega) (by omega)⟩
theorem lp_X2_part {G : GW} {K : Option Value → Mem → Prop} {f : Nat → Int32} {n t m p : Nat} {s : Bool × Nat} {r : (Bool × Nat) × List Int32} {μ : Mem} (ht : isTx t) (hp : p < 3) (ha : rdA f n t 0 m s μ) (hr : rdPart (tkT f n) (nvT f n) p s = some r)
    (hk : ∀ (ν : Mem) (m' : Nat), rdA f n t 0 m' r.1 ν → FrP t m p μ ν → m ≤ m' → (r.1.1 = true → s.1 = true ∧ m' = m + r.2.length ∧ ν (t + 2) p = nI m' ∧ ∀ i, i < r.2.length → ν (t + 1) (m + i) = r.2.getD i 0) → Ev2 G mX2_read 71 29 [(0, .ref 23), (1, .ref t), (2, .int (nI (p + 1)))] [] ν K) : Ev2 G mX2_read 71 29 [(0, .ref 23), (1, .ref t), (2, .int (nI p))] [] μ K := by
  obtain ⟨r1, h1, h2⟩ := bind_some' hr
  cases h2
  have hl := isTx_lo ht
  obtain ⟨w22, w21⟩ := wd_no hp
  have hx := ha.nil.exp ht w22 w21
  obtain ⟨m1, g1, g2, g3⟩ := hx.on
  refine sg_X2_read_29 (d := 71) (by omega) ((mc_Or G 1400).at (d := 71 - 1) (o := 0) (by omega) (by omega) h1 g3) ht ⟨fun c => absurd c (nI_ge (b := 3) (by omega) (by omega)), fun _ => ⟨ha.tp, ⟨rfl, rfl, by rw [Int32.zero_add]⟩, fun ν hν => ⟨hν.tp, vp_nI hp (by omega), ?_⟩⟩⟩
  have hj := (hx.join g1 g2 hν).exp ht (w := 14) (by decide) (by decide)
  rw [List.nil_append] at hj
  obtain ⟨m2, q1, q2, q3⟩ := hj.on
  rw [ix_nI (by omega), nI_1]
  obtain ⟨j1, j2, j3, j4⟩ := hj
  have er : ∀ a, a ≠ t + 2 → mset (expM ν 14) (t + 2) p (expM ν 14 t 3) a = expM ν 14 a := fun a h => mset_ne h
  refine hk _ m2 ⟨q3.1.row (er 23 (by omega)) (er 24 (by omega)) (er 25 (by omega)), by rw [er t (by omega)]; exact q3.2.1, q3.2.2⟩ ⟨fun a c1 c2 c3 c4 c5 => ?_, fun k c1 c2 c3 => ?_, fun k c1 => ?_, fun q c1 => ?_⟩ q1 (fun c => ?_)
  · rw [er a c5]; exact j2.1 a c1 c2 c3 c4
  · rw [er 24 (by omega)]; exact j2.2.1 k c1 c2 c3
  · rw [er (t + 1) (by omega)]; exact j2.2.2.2 k c1
  · rw [mset_other (by omega), j2.1 (t + 2) (by omega) (by omega) (by omega) (by omega)]
  · obtain ⟨b1, b2, b3, b4, b5, b6⟩ := j4 c
    have em := q2 c
    refine ⟨b1, em, ?_, fun i hi => ?_⟩
    · rw [mset_same, em]; exact b5
    · rw [er (t + 1) (by omega)]; exact b6 i hi
theorem RdP.begin {n : Nat} {t : Nat} (ht : isTx t) {μ : Mem} (hn : n ≤ 160) (h1 : μ 24 1 = nI n) : (∃ n p, tpP n p (mset (mset (mset μ 23 2 (-1)) 24 2 0) t 3 0)) ∧ rdA (μ 25) n t 0 0 (true, 0) (mset (nxM (mset (mset (mset μ 23 2 (-1)) 24 2 0) t 3 0) (nN (mset (mset (mset μ 23 2 (-1)) 24 2 0) t 3 0)) (skp ((mset (mset (mset μ 23 2 (-1)) 24 2 0) t 3 0) 25) (nN (mset (mset (mset μ 23 2 (-1)) 24 2 0) t 3 0)) (pN (mset (mset (mset μ 23 2 (-1)) 24 2 0) t 3 0)))) 23 1 (tkK ((mset (mset (mset μ 23 2 (-1)) 24 2 0) t 3 0) 25) (nN (mset (mset (mset μ 23 2 (-1)) 24 2 0) t 3 0)) (skp ((mset (mset (mset μ 23 2 (-1)) 24 2 0) t 3 0) 25) (nN (mset (mset (mset μ 23 2 (-1)) 24 2 0) t 3 0)) (pN (mset (mset (mset μ 23 2 (-1)) 24 2 0) t 3 0))))) ∧ FrR t μ (mset (nxM (mset (mset (mset μ 23 2 (-1)) 24 2 0) t 3 0) (nN (mset (mset (mset μ 23 2 (-1)) 24 2 0) t 3 0)) (skp ((mset (mset (mset μ 23 2 (-1)) 24 2 0) t 3 0) 25) (nN (mset (mset (mset μ 23 2 (-1)) 24 2 0) t 3 0)) (pN (mset (mset (mset μ 23 2 (-1)) 24 2 0) t 3 0)))) 23 1 (tkK ((mset (mset (mset μ 23 2 (-1)) 24 2 0) t 3 0) 25) (nN (mset (mset (mset μ 23 2 (-1)) 24 2 0) t 3 0)) (skp ((mset (mset (mset μ 23 2 (-1)) 24 2 0) t 3 0) 25) (nN (mset (mset (mset μ 23 2 (-1)) 24 2 0) t 3 0)) (pN (mset (mset (mset μ 23 2 (-1)) 24 2 0) t 3 0))))) := by
  have hl := isTx_lo ht
  generalize hμ : mset (mset (mset μ 23 2 (-1)) 24 2 0) t 3 0 = μa
  have a1 : μa 24 1 = nI n := by rw [← hμ, mset_other (by omega), mset_other (by omega), mset_other (by omega)]; exact h1
  have a2 : μa 24 2 = nI 0 := by rw [← hμ, mset_other (by omega), mset_same]; rfl
  have a3 : μa 23 2 = -1 := by rw [← hμ, mset_other (by omega), mset_other (by omega), mset_same]
  have a4 : μa t 3 = nI 0 := by rw [← hμ, mset_same]; rfl
  have a25 : μa 25 = μ 25 := by rw [← hμ, mset_ne (by omega), mset_ne (by omega), mset_ne (by omega)]
  have hfr : ∀ a, a ≠ 23 → a ≠ 24 → a ≠ t → μa a = μ a := fun a c1 c2 c3 => by rw [← hμ, mset_ne c3, mset_ne c2, mset_ne c1]
  have hf24 : ∀ k, k ≠ 2 → μa 24 k = μ 24 k := fun k c => by rw [← hμ, mset_other (by omega), mset_other (by omega), mset_other (by omega)]
  have htp : tpP n 0 μa := ⟨hn, Nat.zero_le _, a1, a2⟩
  have e1 : nN μa = n := htp.eN
  have e2 : pN μa = 0 := htp.eP
  rw [e1, e2, a25]
  have es : skp (μ 25) n 0 = stT (μ 25) n 0 := rfl
  rw [es]
  have hE := tkE_le (f := μ 25) (stT_le (μ 25) n 0).2
  have nx : ∀ a, a ≠ 24 → nxM μa n (stT (μ 25) n 0) a = μa a := fun a c => by
    unfold nxM
    rw [mset_ne c, mset_ne c, mset_ne c]
  have nx24 : ∀ k, k ≠ 2 → k ≠ 3 → k ≠ 4 → nxM μa n (stT (μ 25) n 0) 24 k = μa 24 k := fun k c1 c2 c3 => by
    unfold nxM
    rw [mset_other (by omega), mset_other (by omega), mset_other (by omega)]
  have n2 : nxM μa n (stT (μ 25) n 0) 24 2 = nI (plT (μ 25) n 1) := by
    unfold nxM
    rw [mset_same, a25]
    rfl
  have n3 : nxM μa n (stT (μ 25) n 0) 24 3 = nI (stT (μ 25) n 0) := by
    unfold nxM
    rw [mset_other (by omega), mset_other (by omega), mset_same]
  have n4 : nxM μa n (stT (μ 25) n 0) 24 4 = tkV (μ 25) n (stT (μ 25) n 0) (μa 24 4) := by
    unfold nxM
    rw [mset_other (by omega), mset_same, a25]
  refine ⟨⟨n, 0, htp⟩, ⟨⟨hn, ⟨plT (μ 25) n 1, hn, plT_le _ _ _, ?_, ?_⟩, ?_, ?_, fun _ => ⟨?_, ?_, ?_, fun q => ?_⟩, fun q => absurd q (by simp)⟩, ?_, by omega, fun _ => ⟨Nat.le_refl _, Nat.zero_le _⟩⟩, fun a c1 c2 c3 c4 c5 => ?_, fun k c1 c2 c3 => ?_⟩
  · rw [mset_other (by omega), nx24 1 (by omega) (by omega) (by omega)]; exact a1
  · rw [mset_other (by omega)]; exact n2
  · rw [mset_ne (by omega), nx 25 (by omega)]; exact a25
  · rw [mset_same, tkS_t]
    rfl
  · rw [mset_other (by omega)]; exact n2
  · rw [mset_other (by omega)]; exact n3
  · rw [mset_other (by omega), nx 23 (by omega)]; exact a3
  · rw [mset_other (by omega), n4]
    have q := tk20 (f := μ 25) (n := n) (s := stT (μ 25) n 0) q
    unfold tkV
    rw [if_pos q]
    rfl
  · rw [mset_ne (by omega), nx t (by omega)]; exact a4
  · rw [mset_ne c1, nx a c2]; exact hfr a c1 c2 c3
  · rw [mset_other (by omega), nx24 k c1 c2 c3]; exact hf24 k c1
theorem ct_X2_read {G : GW} (t : Nat) (ht : isTx t) (μ : Mem) (hp : rdPre μ) : Ev2 G mX2_read 71 0 [(0, .ref 23), (1, .ref t)] [] μ (fun v μ' => ∃ x, v = some (.int x) ∧ rdRel μ t x μ') := by
  obtain ⟨n, hn, h1⟩ := hp
  have hl := isTx_lo ht
  obtain ⟨b1, b2, b3⟩ := RdP.begin ht hn h1
  refine sg_X2_read_0 (d := 71) (by omega) MC.no ht ⟨b1, ?_⟩
  revert b2 b3
  generalize mset (nxM (mset (mset (mset μ 23 2 (-1)) 24 2 0) t 3 0) (nN (mset (mset (mset μ 23 2 (-1)) 24 2 0) t 3 0)) (skp ((mset (mset (mset μ 23 2 (-1)) 24 2 0) t 3 0) 25) (nN (mset (mset (mset μ 23 2 (-1)) 24 2 0) t 3 0)) (pN (mset (mset (mset μ 23 2 (-1)) 24 2 0) t 3 0)))) 23 1 (tkK ((mset (mset (mset μ 23 2 (-1)) 24 2 0) t 3 0) 25) (nN (mset (mset (mset μ 23 2 (-1)) 24 2 0) t 3 0)) (skp ((mset (mset (mset μ 23 2 (-1)) 24 2 0) t 3 0) 25) (nN (mset (mset (mset μ 23 2 (-1)) 24 2 0) t 3 0)) (pN (mset (mset (mset μ 23 2 (-1)) 24 2 0) t 3 0)))) = μ0
  intro b2 b3
  obtain ⟨r, hr⟩ := rdAll_tot (f := μ 25) hn
  obtain ⟨r0, r1, r2, p0, p1, p2, rfl⟩ := rdAll_some hr
  refine lp_X2_part ht (p := 0) (by omega) b2 p0 (fun ν0 m0 a0 f0 l0 c0 => ?_)
  refine lp_X2_part ht (p := 1) (by omega) a0 p1 (fun ν1 m1 a1 f1 l1 c1 => ?_)
  refine lp_X2_part ht (p := 2) (by omega) a1 p2 (fun ν2 m2 a2 f2 l2 c2 => ?_)
  refine sg_X2_read_29 (d := 71) (by omega) MC.no ht ⟨fun _ => ⟨a2.tp, _, rfl, ?_⟩, fun q => absurd (nI_le (a := 3) (Nat.le_refl 3) (by omega)) q⟩
  intro n' r' hn' h1' hr'
  obtain rfl : n' = n := (nI_eq (by omega) (by omega)).mp (h1'.symm.trans h1)
  have er : r' = (exS (tkT (μ 25) n') r2.1 21, r0.2, r1.2, r2.2) := Option.some.inj (hr'.symm.trans hr)
  subst er
  have hx := a2.1.exp (w := 21) (by decide)
  obtain ⟨e1, e2, e3⟩ := expM_fr (μ := ν2) (w := 21) (m := m2) ht
  refine ⟨?_, ⟨fun a q1 q2 q3 q4 q5 => ?_, fun k q1 q2 q3 => ?_⟩, fun q => ?_⟩
  · unfold outT
    by_cases c : (exS (tkT (μ 25) n') r2.1 21).1 = true
    · rw [if_pos c]
      exact (hx.2.2.2.2.1 c).2.2.1
    · rw [if_neg c]
      exact hx.2.2.2.2.2 (by simpa using c)
  · rw [e1.1 a q1 q2 q3 q4, f2.1 a q1 q2 q3 q4 q5, f1.1 a q1 q2 q3 q4 q5, f0.1 a q1 q2 q3 q4 q5]
    exact b3.1 a q1 q2 q3 q4 q5
  · rw [e1.2.1 k q1 q2 q3, f2.2.1 k q1 q2 q3, f1.2.1 k q1 q2 q3, f0.2.1 k q1 q2 q3]
    exact b3.2 k q1 q2 q3
  · obtain ⟨x1, -, -⟩ := exS_alive (by decide) q
    obtain ⟨y1, y2, y3, y4⟩ := c2 x1
    obtain ⟨z1, z2, z3, z4⟩ := c1 y1
    obtain ⟨w1, w2, w3, w4⟩ := c0 z1
    have hm2 := a2.2.2.1
    have er2 : expM ν2 21 (t + 2) = ν2 (t + 2) := e1.1 (t + 2) (by omega) (by omega) (by omega) (by omega)
    show r0.2.length + r1.2.length + r2.2.length ≤ 160 ∧ expM ν2 21 (t + 2) 0 = nI r0.2.length ∧ expM ν2 21 (t + 2) 1 = nI (r0.2.length + r1.2.length) ∧ expM ν2 21 (t + 2) 2 = nI (r0.2.length + r1.2.length + r2.2.length) ∧ (∀ i, i < r0.2.length → expM ν2 21 (t + 1) i = r0.2.getD i 0) ∧ (∀ i, i < r1.2.length → expM ν2 21 (t + 1) (r0.2.length + i) = r1.2.getD i 0) ∧ ∀ i, i < r2.2.length → expM ν2 21 (t + 1) (r0.2.length + r1.2.length + i) = r2.2.getD i 0
    rw [er2, e3]
    rw [Nat.zero_add] at w2
    subst w2
    subst z2
    subst y2
    refine ⟨hm2, ?_, ?_, y3, fun i hi => ?_, fun i hi => ?_, fun i hi => y4 i hi⟩
    · rw [f2.2.2.2 0 (by omega), f1.2.2.2 0 (by omega)]; exact w3
    · rw [f2.2.2.2 1 (by omega)]; exact z3
    · rw [f2.2.2.1 i (by omega), f1.2.2.1 i hi]
      have := w4 i hi
      rw [Nat.zero_add] at this
      exact this
    · rw [f2.2.2.1 _ (by omega)]
      exact z4 i hi
