/-! ===== the class: what is soon, and by whom ===== -/
/-- all but the search's own rows -/
def sameQ (μ ν : Mem) : Prop := ∀ a, ¬ (26 ≤ a ∧ a ≤ 31) → ν a = μ a
theorem sameQ.rf (μ : Mem) : sameQ μ μ := fun _ _ => rfl
theorem sameQ.tr {μ ν ξ : Mem} (h1 : sameQ μ ν) (h2 : sameQ ν ξ) : sameQ μ ξ := fun a ha => (h2 a ha).trans (h1 a ha)
theorem sameQ.env {μ ν : Mem} (h : sameQ μ ν) : goX ν = goX μ ∧ tmX ν = tmX μ ∧ wX ν = wX μ := ⟨(goX_row (fun a ha => h a (by omega))).1, (goX_row (fun a ha => h a (by omega))).2, wX_row (fun a h1 h2 => h a (by omega))⟩
def soonR (μ : Mem) (set : Int32) (a b : Nat) (x : Int32) (ν : Mem) : Prop := x = soonV (goX μ) (tmX μ) (wX μ) set a b ∧ sameQ μ ν ∧ eq7 (get4 27 ν) (runV (goX μ) (tmX μ) (wX μ) set (nI b) a)
theorem sg_X7_soonWith_0 {G : GW} {K : Option Value → Mem → Prop} {μ : Mem} {x1 x2 x3 : Int32}  (h : (vp_in x2 7 ∧ goOK (goX μ) x1) ∧ (vp_in x3 7) ∧ K (some (.int ((put4 27 μ (stopRun (goX μ) (tmX μ) (wX μ) 7 x1 x3 7 (initS 1000000000 x2 x2.toNatClampNeg (get4 27 μ)))) 27 x3.toNatClampNeg))) (put4 27 μ (stopRun (goX μ) (tmX μ) (wX μ) 7 x1 x3 7 (initS 1000000000 x2 x2.toNatClampNeg (get4 27 μ))))) : Ev2 G mX7_soonWith 6 0 [(0, .ref 10), (1, .int x1), (2, .int x2), (3, .int x3)] [] μ K := by
  refine ev_aload_n dX7_soonWith_0 0 rfl (by decide) ?_
  refine ev_getR' fl_7_43 rfl kd_10 rf_10_6 dX7_soonWith_1 ?_
  refine ev_aload_n dX7_soonWith_4 0 rfl (by decide) ?_
  refine ev_getR' fl_7_11 rfl kd_10 rf_10_0 dX7_soonWith_5 ?_
  refine ev_aload_n dX7_soonWith_8 0 rfl (by decide) ?_
  refine ev_getR' fl_7_16 rfl kd_10 rf_10_1 dX7_soonWith_9 ?_
  refine ev_iload_n dX7_soonWith_12 1 rfl ?_
  refine ev_iload_n dX7_soonWith_13 2 rfl ?_
  refine ev_iload_n dX7_soonWith_14 3 rfl ?_
  have p1 := h.1
  have h2 := h.2
  refine e2_callVv (μ1 := (put4 27 μ (stopRun (goX μ) (tmX μ) (wX μ) 7 x1 x3 7 (initS 1000000000 x2 x2.toNatClampNeg (get4 27 μ))))) (a := 26) (as := [.ref 11, .ref 19, .int x1, .int x2, .int x3]) (st := []) ok_X3_setOut vi_X3_setOut ml_7_321 hcl_3 kd_26 dX7_soonWith_15 rfl rfl (Nat.le_of_ble_eq_true rfl) (Nat.le_of_ble_eq_true rfl) (by decide) (ct_X3_setOut (x1) (x2) (x3) μ p1) ?_
  refine ev_aload_n dX7_soonWith_18 0 rfl (by decide) ?_
  refine ev_getR' fl_7_43 rfl kd_10 rf_10_6 dX7_soonWith_19 ?_
  refine ev_iload_n dX7_soonWith_22 3 rfl ?_
  have p3 := h2.1
  have h4 := h2.2
  refine e2_callV (w := .int ((put4 27 μ (stopRun (goX μ) (tmX μ) (wX μ) 7 x1 x3 7 (initS 1000000000 x2 x2.toNatClampNeg (get4 27 μ)))) 27 x3.toNatClampNeg)) (μ1 := (put4 27 μ (stopRun (goX μ) (tmX μ) (wX μ) 7 x1 x3 7 (initS 1000000000 x2 x2.toNatClampNeg (get4 27 μ))))) (a := 26) (as := [.int x3]) (st := []) ok_X3_soonAt vi_X3_soonAt ml_7_256 hcl_3 kd_26 dX7_soonWith_23 rfl rfl (Nat.le_of_ble_eq_true rfl) (Nat.le_of_ble_eq_true rfl) (by decide) (ct_X3_soonAt (x3) (put4 27 μ (stopRun (goX μ) (tmX μ) (wX μ) 7 x1 x3 7 (initS 1000000000 x2 x2.toNatClampNeg (get4 27 μ)))) p3) ?_
  exact ev_ireturn dX7_soonWith_26 rfl True.intro rfl rfl ⟨rfl, h4⟩
theorem ct_X7_soonWith {G : GW} (x1 x2 x3 : Int32) (μ : Mem) (hp : vp_in x2 7 ∧ vp_in x3 7 ∧ goOK (goX μ) x1) : Ev2 G mX7_soonWith 6 0 [(0, .ref 10), (1, .int x1), (2, .int x2), (3, .int x3)] [] μ (fun v μ' => ∃ x, v = some (.int x) ∧ soonR μ x1 x2.toNatClampNeg x3.toNatClampNeg x μ') := by
  obtain ⟨h1, h2, h3⟩ := hp
  obtain ⟨a, ha, rfl⟩ := vp_in_of h1 (by omega)
  obtain ⟨b, hb, rfl⟩ := vp_in_of h2 (by omega)
  refine sg_X7_soonWith_0 ⟨⟨vp_nI ha (by omega), h3⟩, vp_nI hb (by omega), _, rfl, ?_⟩
  rw [ix_nI (by omega), ix_nI (by omega)]
  have h := runV_of (tm := tmX μ) (w := wX μ) (stop := nI b) h3 a (get4 27 μ)
  refine ⟨?_, fun c hc => put4_out (by omega), fun r hr k hk => ?_⟩
  · exact (congrFun (put4_in (β := 27) (r := 0) (by omega)) b).trans (h 0 (by omega) b hb)
  · rw [get_put4 hr]
    exact h r hr k hk
theorem sg_X7_searchAll_0 {G : GW} {K : Option Value → Mem → Prop} {μ : Mem} {x1 : Int32}  (h : (vp_in x1 7 ∧ goOK (goX μ) ((((1 : Int32) <<< (μ 10 9 &&& 31)) - 1))) ∧ K none (put4 27 μ (stopRun (goX μ) (tmX μ) (wX μ) 7 ((((1 : Int32) <<< (μ 10 9 &&& 31)) - 1)) ((-1) : Int32) 7 (initS 1000000000 x1 x1.toNatClampNeg (get4 27 μ))))) : Ev2 G mX7_searchAll 6 0 [(0, .ref 10), (1, .int x1)] [] μ K := by
  refine ev_aload_n dX7_searchAll_0 0 rfl (by decide) ?_
  refine ev_getR' fl_7_43 rfl kd_10 rf_10_6 dX7_searchAll_1 ?_
  refine ev_aload_n dX7_searchAll_4 0 rfl (by decide) ?_
  refine ev_getR' fl_7_11 rfl kd_10 rf_10_0 dX7_searchAll_5 ?_
  refine ev_aload_n dX7_searchAll_8 0 rfl (by decide) ?_
  refine ev_getR' fl_7_16 rfl kd_10 rf_10_1 dX7_searchAll_9 ?_
  refine ev_aload_n dX7_searchAll_12 0 rfl (by decide) ?_
  refine e2_callV (w := .int ((((1 : Int32) <<< (μ 10 9 &&& 31)) - 1))) (μ1 := μ) (a := 10) (as := []) (st := [.ref 19, .ref 11, .ref 26]) ok_X7_allHorses vi_X7_allHorses ml_7_176 hcl_7 kd_10 dX7_searchAll_13 rfl rfl (Nat.le_of_ble_eq_true rfl) (Nat.le_of_ble_eq_true rfl) (by decide) (ct_X7_allHorses μ) ?_
  refine ev_iload_n dX7_searchAll_16 1 rfl ?_
  refine ev_iconst (v := (-1)) dX7_searchAll_17 rfl ?_
  have p1 := h.1
  have h2 := h.2
  refine e2_callVv (μ1 := (put4 27 μ (stopRun (goX μ) (tmX μ) (wX μ) 7 ((((1 : Int32) <<< (μ 10 9 &&& 31)) - 1)) ((-1) : Int32) 7 (initS 1000000000 x1 x1.toNatClampNeg (get4 27 μ))))) (a := 26) (as := [.ref 11, .ref 19, .int ((((1 : Int32) <<< (μ 10 9 &&& 31)) - 1)), .int x1, .int (-1)]) (st := []) ok_X3_setOut vi_X3_setOut ml_7_321 hcl_3 kd_26 dX7_searchAll_18 rfl rfl (Nat.le_of_ble_eq_true rfl) (Nat.le_of_ble_eq_true rfl) (by decide) (ct_X3_setOut (((((1 : Int32) <<< (μ 10 9 &&& 31)) - 1))) (x1) ((-1)) μ p1) ?_
  exact ev_return dX7_searchAll_21 rfl rfl rfl ⟨rfl, h2⟩
theorem ct_X7_searchAll {G : GW} (x1 : Int32) (μ : Mem) (hp : vp_in x1 7 ∧ goOK (goX μ) (((1 <<< (μ 10 9 &&& 31)) - 1))) : Ev2 G mX7_searchAll 6 0 [(0, .ref 10), (1, .int x1)] [] μ (fun v μ' => v = none ∧ (sameQ μ μ' ∧ eq7 (get4 27 μ') (runV (goX μ) (tmX μ) (wX μ) (((1 <<< (μ 10 9 &&& 31)) - 1)) (-1) x1.toNatClampNeg))) := by
  obtain ⟨h1, h3⟩ := hp
  obtain ⟨a, ha, rfl⟩ := vp_in_of h1 (by omega)
  refine sg_X7_searchAll_0 ⟨⟨vp_nI ha (by omega), h3⟩, rfl, ?_⟩
  rw [ix_nI (by omega)]
  have h := runV_of (tm := tmX μ) (w := wX μ) (stop := -1) h3 a (get4 27 μ)
  refine ⟨fun c hc => put4_out (by omega), fun r hr k hk => ?_⟩
  rw [get_put4 hr]
  exact h r hr k hk
def ridV (sv : Nat → Nat → Int32) (f t : Nat → Nat) : Nat → Int32
  | 0 => 0
  | r + 1 => ridV sv f t r + sv (f r) (t r)
def ridOK (μ : Mem) : Prop := ∃ R, R ≤ 4 ∧ μ 10 10 = nI R ∧ ∀ r, r < R → vp_in (μ 20 r) 7 ∧ vp_in (μ 21 r) 7
def riddenX (μ : Mem) (set : Int32) : Int32 := ridV (soonV (goX μ) (tmX μ) (wX μ) set) (fun r => (μ 20 r).toNatClampNeg) (fun r => (μ 21 r).toNatClampNeg) (μ 10 10).toNatClampNeg
theorem sg_X7_ridden_0 {G : GW} {K : Option Value → Mem → Prop} {μ : Mem} {x1 : Int32}  (h : Ev2 G mX7_ridden 7 4 [(0, .ref 10), (1, .int x1), (2, .int 0), (3, .int 0)] [] μ K) : Ev2 G mX7_ridden 7 0 [(0, .ref 10), (1, .int x1)] [] μ K := by
  refine ev_iconst (v := 0) dX7_ridden_0 rfl ?_
  refine ev_istore_n (lv' := [(0, .ref 10), (1, .int x1), (2, .int 0)]) dX7_ridden_1 (by decide) [1, 2, 0] rfl ?_
  refine ev_iconst (v := 0) dX7_ridden_2 rfl ?_
  refine ev_istore_n (lv' := [(0, .ref 10), (1, .int x1), (2, .int 0), (3, .int 0)]) dX7_ridden_3 (by decide) [1, 2, 3, 0] rfl ?_
  exact h
theorem sg_X7_ridden_4 {G : GW} {K : Option Value → Mem → Prop} {μ : Mem} {x1 x2 x3 : Int32}  (h : (((μ 10 10) ≤ x3) → K (some (.int x2)) μ) ∧ ((¬ ((μ 10 10) ≤ x3)) → (vp_in x3 4) ∧ (vp_in x3 4) ∧ (vp_in (μ 20 x3.toNatClampNeg) 7 ∧ vp_in (μ 21 x3.toNatClampNeg) 7 ∧ goOK (goX μ) x1) ∧ ∀ (z10 : Int32) (μ11 : Mem), (soonR μ x1 (μ 20 x3.toNatClampNeg).toNatClampNeg (μ 21 x3.toNatClampNeg).toNatClampNeg z10 μ11) → Ev2 G mX7_ridden 7 4 [(0, .ref 10), (1, .int x1), (2, .int (x2 + z10)), (3, .int (x3 + 1))] [] μ11 K)) : Ev2 G mX7_ridden 7 4 [(0, .ref 10), (1, .int x1), (2, .int x2), (3, .int x3)] [] μ K := by
  refine ev_iload_n dX7_ridden_4 3 rfl ?_
  refine ev_aload_n dX7_ridden_5 0 rfl (by decide) ?_
  refine ev_getI' (v := (μ 10 10)) fl_7_64 rfl kd_10 rfl dX7_ridden_6 ?_
  refine ev_icmp_ge (tgt := 38) dX7_ridden_9 rfl (fun c1 => ?_) (fun c1 => ?_)
  · have h2 := h.1 c1
    refine ev_iload_n dX7_ridden_38 2 rfl ?_
    exact ev_ireturn dX7_ridden_39 rfl True.intro rfl rfl ⟨rfl, h2⟩
  · have h3 := h.2 c1
    refine ev_iload_n dX7_ridden_12 2 rfl ?_
    refine ev_aload_n dX7_ridden_13 0 rfl (by decide) ?_
    refine ev_iload_n dX7_ridden_14 1 rfl ?_
    refine ev_aload_n dX7_ridden_15 0 rfl (by decide) ?_
    refine ev_getR' fl_7_20 rfl kd_10 rf_10_2 dX7_ridden_16 ?_
    refine ev_iload_n dX7_ridden_19 3 rfl ?_
    have p4 := h3.1
    have h5 := h3.2
    refine ev_iaload' (v := (μ 20 x3.toNatClampNeg)) kd_20 ln_20 p4 rfl dX7_ridden_20 ?_
    refine ev_aload_n dX7_ridden_21 0 rfl (by decide) ?_
    refine ev_getR' fl_7_24 rfl kd_10 rf_10_3 dX7_ridden_22 ?_
    refine ev_iload_n dX7_ridden_25 3 rfl ?_
    have p6 := h5.1
    have h7 := h5.2
    refine ev_iaload' (v := (μ 21 x3.toNatClampNeg)) kd_21 ln_21 p6 rfl dX7_ridden_26 ?_
    have p8 := h7.1
    have h9 := h7.2
    refine e2_callVr (Rl := fun z10 μ11 => soonR μ x1 (μ 20 x3.toNatClampNeg).toNatClampNeg (μ 21 x3.toNatClampNeg).toNatClampNeg z10 μ11) (a := 10) (as := [.int x1, .int (μ 20 x3.toNatClampNeg), .int (μ 21 x3.toNatClampNeg)]) (st := [.int x2]) ok_X7_soonWith vi_X7_soonWith ml_7_179 hcl_7 kd_10 dX7_ridden_27 rfl rfl (Nat.le_of_ble_eq_true rfl) (Nat.le_of_ble_eq_true rfl) (by decide) (ct_X7_soonWith (x1) ((μ 20 x3.toNatClampNeg)) ((μ 21 x3.toNatClampNeg)) μ p8) (fun z10 μ11 r12 => ?_)
    have h13 := h9 z10 μ11 r12
    refine ev_iadd dX7_ridden_30 ?_
    refine ev_istore_n (lv' := [(0, .ref 10), (1, .int x1), (2, .int (x2 + z10)), (3, .int x3)]) dX7_ridden_31 (by decide) [1, 2, 0, 3] rfl ?_
    refine ev_iinc (v := (x3 + 1)) (lv' := [(0, .ref 10), (1, .int x1), (2, .int (x2 + z10)), (3, .int (x3 + 1))]) dX7_ridden_32 3 rfl rfl (by decide) [1, 2, 3, 0] rfl ?_
    refine ev_goto (tgt := 4) dX7_ridden_35 rfl ?_
    exact h13
theorem lp_X7_ridden {G : GW} (set : Int32) (μ : Mem) {R : Nat} (hR : R ≤ 4) (hc : μ 10 10 = nI R) (hr : ∀ r, r < R → vp_in (μ 20 r) 7 ∧ vp_in (μ 21 r) 7) (hg : goOK (goX μ) set) : ∀ j i (ν : Mem), i + j = R → sameQ μ ν → Ev2 G mX7_ridden 7 4 [(0, .ref 10), (1, .int set), (2, .int (ridV (soonV (goX μ) (tmX μ) (wX μ) set) (fun r => (μ 20 r).toNatClampNeg) (fun r => (μ 21 r).toNatClampNeg) i)), (3, .int (nI i))] [] ν (fun v μ' => ∃ x, v = some (.int x) ∧ (x = riddenX μ set ∧ sameQ μ μ')) := by
  intro j
  induction j with
  | zero =>
    intro i ν hi hs
    obtain rfl : i = R := by omega
    refine sg_X7_ridden_4 ⟨fun _ => ⟨_, rfl, ?_, hs⟩, fun c => ?_⟩
    · unfold riddenX
      rw [hc, ix_nI (by omega)]
    · rw [hs 10 (by omega), hc] at c
      exact absurd (nI_le (Nat.le_refl i) (by omega)) c
  | succ j ih =>
    intro i ν hi hs
    obtain ⟨e1, e2, e3⟩ := hs.env
    obtain ⟨v1, v2⟩ := hr i (by omega)
    refine sg_X7_ridden_4 ⟨fun c => ?_, fun _ => ⟨vp_nI (by omega) (by omega), vp_nI (by omega) (by omega), ?_, fun x μ1 hx => ?_⟩⟩
    · rw [hs 10 (by omega), hc] at c
      exact absurd c (nI_ge (by omega) (by omega))
    · rw [ix_nI (by omega), hs 20 (by omega), hs 21 (by omega), e1]
      exact ⟨v1, v2, hg⟩
    · rw [ix_nI (by omega), hs 20 (by omega), hs 21 (by omega)] at hx
      obtain ⟨x1, x2, -⟩ := hx
      rw [e1, e2, e3] at x1
      have h := ih (i + 1) μ1 (by omega) (hs.tr x2)
      rw [← nI_1] at h
      rw [x1]
      exact h
theorem ct_X7_ridden {G : GW} (x1 : Int32) (μ : Mem) (hp : ridOK μ ∧ goOK (goX μ) x1) : Ev2 G mX7_ridden 7 0 [(0, .ref 10), (1, .int x1)] [] μ (fun v μ' => ∃ x, v = some (.int x) ∧ (x = riddenX μ x1 ∧ sameQ μ μ')) := by
  obtain ⟨⟨R, hR, hc, hr⟩, hg⟩ := hp
  exact sg_X7_ridden_0 (lp_X7_ridden x1 μ hR hc hr hg R 0 μ (by omega) (sameQ.rf μ))
def livV (dies : Nat → Int32) (set : Int32) : Nat → Int64
  | 0 => 1000000000
  | h + 1 => livV dies set h * (Int32.toInt64 (if bitB set (nI h) = true then 100 - dies h else dies h)) / 100
theorem sg_X7_lives_0 {G : GW} {K : Option Value → Mem → Prop} {μ : Mem} {x1 : Int32}  (h : Ev2 G mX7_lives 2 7 [(0, .ref 10), (1, .int x1), (2, .long (1000000000 : Int64)), (4, .int 0)] [] μ K) : Ev2 G mX7_lives 2 0 [(0, .ref 10), (1, .int x1)] [] μ K := by
  refine ev_ldc2 dX7_lives_0 co_7_325 ?_
  refine ev_lstore_n (lv' := [(0, .ref 10), (1, .int x1), (2, .long (1000000000 : Int64))]) dX7_lives_3 (by decide) [1, 2, 0] rfl ?_
  refine ev_iconst (v := 0) dX7_lives_4 rfl ?_
  refine ev_istore (lv' := [(0, .ref 10), (1, .int x1), (2, .long (1000000000 : Int64)), (4, .int 0)]) dX7_lives_5 (by decide) [1, 2, 3, 0] rfl ?_
  exact h
theorem sg_X7_lives_7 {G : GW} {K : Option Value → Mem → Prop} {μ : Mem} {x1 x4 : Int32} {x2 : Int64}  (h : (((μ 10 9) ≤ x4) → K (some (.long x2)) μ) ∧ ((¬ ((μ 10 9) ≤ x4)) → (vp_in x4 7) ∧ ∀ y6 : Int32, y6 = (μ (43 + x4.toNatClampNeg) 8) → (((bitB x1 x4) = false) → Ev2 G mX7_lives 2 7 [(0, .ref 10), (1, .int x1), (2, .long ((x2 * (Int32.toInt64 y6)) / (100 : Int64))), (4, .int (x4 + 1))] [] μ K) ∧ (((bitB x1 x4) = true) → Ev2 G mX7_lives 2 7 [(0, .ref 10), (1, .int x1), (2, .long ((x2 * (Int32.toInt64 (100 - y6))) / (100 : Int64))), (4, .int (x4 + 1))] [] μ K))) : Ev2 G mX7_lives 2 7 [(0, .ref 10), (1, .int x1), (2, .long x2), (4, .int x4)] [] μ K := by
  refine ev_iload dX7_lives_7 3 rfl ?_
  refine ev_aload_n dX7_lives_9 0 rfl (by decide) ?_
  refine ev_getI' (v := (μ 10 9)) fl_7_60 rfl kd_10 rfl dX7_lives_10 ?_
  refine ev_icmp_ge (tgt := 61) dX7_lives_13 rfl (fun c1 => ?_) (fun c1 => ?_)
  · have h2 := h.1 c1
    refine ev_lload_n dX7_lives_61 2 rfl ?_
    exact ev_lreturn dX7_lives_62 rfl rfl rfl ⟨rfl, h2⟩
  · have h3 := h.2 c1
    refine ev_aload_n dX7_lives_16 0 rfl (by decide) ?_
    refine ev_getR' fl_7_16 rfl kd_10 rf_10_1 dX7_lives_17 ?_
    refine ev_iload dX7_lives_20 3 rfl ?_
    have p4 := h3.1
    have h5 := h3.2
    refine ev_aaload' (k := 5) kd_19 (by omega) ln_19 p4 (raH p4) dX7_lives_22 ?_
    refine ev_getI' (v := (μ (43 + x4.toNatClampNeg) 8)) fl_7_137 rfl (kdHo (isH p4)) rfl dX7_lives_23 ?_
    refine ev_top (fun y6 ey6 => ?_)
    have h7 := h5 y6 ey6
    refine ev_istore (lv' := [(0, .ref 10), (1, .int x1), (2, .long x2), (4, .int x4), (5, .int y6)]) dX7_lives_26 (by decide) [1, 2, 3, 4, 0] rfl ?_
    refine ev_lload_n dX7_lives_28 2 rfl ?_
    refine ev_iload_n dX7_lives_29 1 rfl ?_
    refine ev_iload dX7_lives_30 3 rfl ?_
    refine e2_callS (w := .int (bi (bitB x1 x4))) (μ1 := μ) (as := [.int x1, .int x4]) (st := [.long x2]) ok_X7_isIn sv_X7_isIn ml_7_220 dX7_lives_32 rfl rfl (Nat.le_of_ble_eq_true rfl) (Nat.le_of_ble_eq_true rfl) (by decide) (ct_X7_isIn (x1) (x4) μ) ?_
    refine ev_ifeq_bi (tgt := 46) dX7_lives_35 rfl (fun c8 => ?_) (fun c8 => ?_)
    · have h9 := h7.1 c8
      refine ev_iload dX7_lives_46 4 rfl ?_
      refine ev_i2l dX7_lives_48 ?_
      refine ev_lmul dX7_lives_49 ?_
      refine ev_ldc2 dX7_lives_50 co_7_327 ?_
      refine ev_ldiv dX7_lives_53 (by decide) ?_
      refine ev_lstore_n (lv' := [(0, .ref 10), (1, .int x1), (2, .long ((x2 * (Int32.toInt64 y6)) / (100 : Int64))), (4, .int x4), (5, .int y6)]) dX7_lives_54 (by decide) [1, 2, 0, 3, 4] rfl ?_
      refine ev_iinc (v := (x4 + 1)) (lv' := [(0, .ref 10), (1, .int x1), (2, .long ((x2 * (Int32.toInt64 y6)) / (100 : Int64))), (4, .int (x4 + 1)), (5, .int y6)]) dX7_lives_55 3 rfl rfl (by decide) [1, 2, 3, 0, 4] rfl ?_
      refine ev_goto (tgt := 7) dX7_lives_58 rfl ?_
      refine EvW.less [0, 1, 2, 3] (lv' := [(0, .ref 10), (1, .int x1), (2, .long ((x2 * (Int32.toInt64 y6)) / (100 : Int64))), (4, .int (x4 + 1))]) rfl ?_
      exact h9
    · have h10 := h7.2 c8
      refine ev_bipush (v := 100) dX7_lives_38 rfl ?_
      refine ev_iload dX7_lives_40 4 rfl ?_
      refine ev_isub dX7_lives_42 ?_
      refine ev_goto (tgt := 48) dX7_lives_43 rfl ?_
      refine ev_i2l dX7_lives_48 ?_
      refine ev_lmul dX7_lives_49 ?_
      refine ev_ldc2 dX7_lives_50 co_7_327 ?_
      refine ev_ldiv dX7_lives_53 (by decide) ?_
      refine ev_lstore_n (lv' := [(0, .ref 10), (1, .int x1), (2, .long ((x2 * (Int32.toInt64 (100 - y6))) / (100 : Int64))), (4, .int x4), (5, .int y6)]) dX7_lives_54 (by decide) [1, 2, 0, 3, 4] rfl ?_
      refine ev_iinc (v := (x4 + 1)) (lv' := [(0, .ref 10), (1, .int x1), (2, .long ((x2 * (Int32.toInt64 (100 - y6))) / (100 : Int64))), (4, .int (x4 + 1)), (5, .int y6)]) dX7_lives_55 3 rfl rfl (by decide) [1, 2, 3, 0, 4] rfl ?_
      refine ev_goto (tgt := 7) dX7_lives_58 rfl ?_
      refine EvW.less [0, 1, 2, 3] (lv' := [(0, .ref 10), (1, .int x1), (2, .long ((x2 * (Int32.toInt64 (100 - y6))) / (100 : Int64))), (4, .int (x4 + 1))]) rfl ?_
      exact h10
theorem lp_X7_lives {G : GW} (set : Int32) (μ : Mem) {n : Nat} (hn : n ≤ 7) (hc : μ 10 9 = nI n) : ∀ j i, i + j = n → Ev2 G mX7_lives 2 7 [(0, .ref 10), (1, .int set), (2, .long (livV (fun h => μ (43 + h) 8) set i)), (4, .int (nI i))] [] μ (fun v μ' => v = some (.long (livV (fun h => μ (43 + h) 8) set n)) ∧ μ' = μ) := by
  intro j
  induction j with
  | zero =>
    intro i hi
    obtain rfl : i = n := by omega
    refine sg_X7_lives_7 ⟨fun _ => ⟨rfl, rfl⟩, fun c => ?_⟩
    rw [hc] at c
    exact absurd (nI_le (Nat.le_refl i) (by omega)) c
  | succ j ih =>
    intro i hi
    have h := ih (i + 1) (by omega)
    rw [← nI_1] at h
    have ep : livV (fun h => μ (43 + h) 8) set (i + 1) = livV (fun h => μ (43 + h) 8) set i * (Int32.toInt64 (if bitB set (nI i) = true then 100 - μ (43 + i) 8 else μ (43 + i) 8)) / 100 := rfl
    rw [ep] at h
    refine sg_X7_lives_7 ⟨fun c => ?_, fun _ => ⟨vp_nI (by omega) (by omega), fun y hy => ?_⟩⟩
    · rw [hc] at c
      exact absurd c (nI_ge (by omega) (by omega))
    · rw [ix_nI (by omega)] at hy
      rw [hy]
      refine ⟨fun c => ?_, fun c => ?_⟩
      · rw [if_neg (by rw [c]; decide)] at h
        exact h
      · rw [if_pos c] at h
        exact h
theorem ct_X7_lives {G : GW} (x1 : Int32) (μ : Mem) (hp : ∃ n, n ≤ 7 ∧ μ 10 9 = nI n) : Ev2 G mX7_lives 2 0 [(0, .ref 10), (1, .int x1)] [] μ (fun v μ' => v = some (.long (livV (fun h => μ (43 + h) 8) x1 (μ 10 9).toNatClampNeg)) ∧ μ' = μ) := by
  obtain ⟨n, hn, hc⟩ := hp
  rw [hc, ix_nI (by omega)]
  exact sg_X7_lives_0 (lp_X7_lives x1 μ hn hc n 0 (by omega))
def lrem (x y : Int64) : Int64 := x - x / y * y
def lotV (seed : Int32) : Nat → Int64
  | 0 => Int32.toInt64 seed + 1
  | h + 1 => lrem (lotV seed h * 48271) 2147483647
def drwV (dies : Nat → Int32) (seed : Int32) : Nat → Int32
  | 0 => 0
  | h + 1 => if lg_cmp (lrem (lotV seed (h + 1)) 100) (Int32.toInt64 (dies h)) < 0 then drwV dies seed h else drwV dies seed h ||| (1 <<< (nI h &&& 31))
theorem sg_X7_livingBy_0 {G : GW} {K : Option Value → Mem → Prop} {μ : Mem} {x1 : Int32}  (h : Ev2 G mX7_livingBy 1 10 [(0, .ref 10), (2, .int 0), (3, .long ((Int32.toInt64 x1) + (1 : Int64))), (5, .int 0)] [] μ K) : Ev2 G mX7_livingBy 1 0 [(0, .ref 10), (1, .int x1)] [] μ K := by
  refine ev_iconst (v := 0) dX7_livingBy_0 rfl ?_
  refine ev_istore_n (lv' := [(0, .ref 10), (1, .int x1), (2, .int 0)]) dX7_livingBy_1 (by decide) [1, 2, 0] rfl ?_
  refine ev_iload_n dX7_livingBy_2 1 rfl ?_
  refine ev_i2l dX7_livingBy_3 ?_
  refine ev_lconst (v := (1 : Int64)) dX7_livingBy_4 rfl ?_
  refine ev_ladd dX7_livingBy_5 ?_
  refine ev_lstore_n (lv' := [(0, .ref 10), (1, .int x1), (2, .int 0), (3, .long ((Int32.toInt64 x1) + (1 : Int64)))]) dX7_livingBy_6 (by decide) [1, 2, 3, 0] rfl ?_
  refine ev_iconst (v := 0) dX7_livingBy_7 rfl ?_
  refine ev_istore (lv' := [(0, .ref 10), (1, .int x1), (2, .int 0), (3, .long ((Int32.toInt64 x1) + (1 : Int64))), (5, .int 0)]) dX7_livingBy_8 (by decide) [1, 2, 3, 4, 0] rfl ?_
  refine EvW.less [0, 2, 3, 4] (lv' := [(0, .ref 10), (2, .int 0), (3, .long ((Int32.toInt64 x1) + (1 : Int64))), (5, .int 0)]) rfl ?_
  exact h
theorem sg_X7_livingBy_10 {G : GW} {K : Option Value → Mem → Prop} {μ : Mem} {x2 x5 : Int32} {x3 : Int64}  (h : (((μ 10 9) ≤ x5) → K (some (.int x2)) μ) ∧ ((¬ ((μ 10 9) ≤ x5)) → (vp_in x5 7) ∧ (((lg_cmp (((x3 * (48271 : Int64)) - (x3 * (48271 : Int64)) / (2147483647 : Int64) * (2147483647 : Int64)) - ((x3 * (48271 : Int64)) - (x3 * (48271 : Int64)) / (2147483647 : Int64) * (2147483647 : Int64)) / (100 : Int64) * (100 : Int64)) (Int32.toInt64 (μ (43 + x5.toNatClampNeg) 8))) < 0) → Ev2 G mX7_livingBy 1 10 [(0, .ref 10), (2, .int x2), (3, .long ((x3 * (48271 : Int64)) - (x3 * (48271 : Int64)) / (2147483647 : Int64) * (2147483647 : Int64))), (5, .int (x5 + 1))] [] μ K) ∧ ((¬ ((lg_cmp (((x3 * (48271 : Int64)) - (x3 * (48271 : Int64)) / (2147483647 : Int64) * (2147483647 : Int64)) - ((x3 * (48271 : Int64)) - (x3 * (48271 : Int64)) / (2147483647 : Int64) * (2147483647 : Int64)) / (100 : Int64) * (100 : Int64)) (Int32.toInt64 (μ (43 + x5.toNatClampNeg) 8))) < 0)) → ∀ y9 : Int32, y9 = (x2 ||| ((1 : Int32) <<< (x5 &&& 31))) → Ev2 G mX7_livingBy 1 10 [(0, .ref 10), (2, .int y9), (3, .long ((x3 * (48271 : Int64)) - (x3 * (48271 : Int64)) / (2147483647 : Int64) * (2147483647 : Int64))), (5, .int (x5 + 1))] [] μ K))) : Ev2 G mX7_livingBy 1 10 [(0, .ref 10), (2, .int x2), (3, .long x3), (5, .int x5)] [] μ K := by
  refine ev_iload dX7_livingBy_10 3 rfl ?_
  refine ev_aload_n dX7_livingBy_12 0 rfl (by decide) ?_
  refine ev_getI' (v := (μ 10 9)) fl_7_60 rfl kd_10 rfl dX7_livingBy_13 ?_
  refine ev_icmp_ge (tgt := 62) dX7_livingBy_16 rfl (fun c1 => ?_) (fun c1 => ?_)
  · have h2 := h.1 c1
    refine ev_iload_n dX7_livingBy_62 1 rfl ?_
    exact ev_ireturn dX7_livingBy_63 rfl True.intro rfl rfl ⟨rfl, h2⟩
  · have h3 := h.2 c1
    refine ev_lload_n dX7_livingBy_19 2 rfl ?_
    refine ev_ldc2 dX7_livingBy_20 co_7_329 ?_
    refine ev_lmul dX7_livingBy_23 ?_
    refine ev_ldc2 dX7_livingBy_24 co_7_331 ?_
    refine ev_lrem dX7_livingBy_27 (by decide) ?_
    refine ev_lstore_n (lv' := [(0, .ref 10), (2, .int x2), (3, .long ((x3 * (48271 : Int64)) - (x3 * (48271 : Int64)) / (2147483647 : Int64) * (2147483647 : Int64))), (5, .int x5)]) dX7_livingBy_28 (by decide) [1, 2, 0, 3] rfl ?_
    refine ev_lload_n dX7_livingBy_29 2 rfl ?_
    refine ev_ldc2 dX7_livingBy_30 co_7_327 ?_
    refine ev_lrem dX7_livingBy_33 (by decide) ?_
    refine ev_aload_n dX7_livingBy_34 0 rfl (by decide) ?_
    refine ev_getR' fl_7_16 rfl kd_10 rf_10_1 dX7_livingBy_35 ?_
    refine ev_iload dX7_livingBy_38 3 rfl ?_
    have p4 := h3.1
    have h5 := h3.2
    refine ev_aaload' (k := 5) kd_19 (by omega) ln_19 p4 (raH p4) dX7_livingBy_40 ?_
    refine ev_getI' (v := (μ (43 + x5.toNatClampNeg) 8)) fl_7_137 rfl (kdHo (isH p4)) rfl dX7_livingBy_41 ?_
    refine ev_i2l dX7_livingBy_44 ?_
    refine ev_lcmp dX7_livingBy_45 ?_
    refine ev_if_lt (tgt := 56) dX7_livingBy_46 rfl (fun c6 => ?_) (fun c6 => ?_)
    · have h7 := h5.1 c6
      refine ev_iinc (v := (x5 + 1)) (lv' := [(0, .ref 10), (2, .int x2), (3, .long ((x3 * (48271 : Int64)) - (x3 * (48271 : Int64)) / (2147483647 : Int64) * (2147483647 : Int64))), (5, .int (x5 + 1))]) dX7_livingBy_56 3 rfl rfl (by decide) [1, 2, 3, 0] rfl ?_
      refine ev_goto (tgt := 10) dX7_livingBy_59 rfl ?_
      exact h7
    · have h8 := h5.2 c6
      refine ev_iload_n dX7_livingBy_49 1 rfl ?_
      refine ev_iconst (v := 1) dX7_livingBy_50 rfl ?_
      refine ev_iload dX7_livingBy_51 3 rfl ?_
      refine ev_ishl dX7_livingBy_53 ?_
      refine ev_ior dX7_livingBy_54 ?_
      refine ev_top (fun y9 ey9 => ?_)
      have h10 := h8 y9 ey9
      refine ev_istore_n (lv' := [(0, .ref 10), (2, .int y9), (3, .long ((x3 * (48271 : Int64)) - (x3 * (48271 : Int64)) / (2147483647 : Int64) * (2147483647 : Int64))), (5, .int x5)]) dX7_livingBy_55 (by decide) [1, 0, 2, 3] rfl ?_
      refine ev_iinc (v := (x5 + 1)) (lv' := [(0, .ref 10), (2, .int y9), (3, .long ((x3 * (48271 : Int64)) - (x3 * (48271 : Int64)) / (2147483647 : Int64) * (2147483647 : Int64))), (5, .int (x5 + 1))]) dX7_livingBy_56 3 rfl rfl (by decide) [1, 2, 3, 0] rfl ?_
      refine ev_goto (tgt := 10) dX7_livingBy_59 rfl ?_
      exact h10
theorem lp_X7_livingBy {G : GW} (seed : Int32) (μ : Mem) {n : Nat} (hn : n ≤ 7) (hc : μ 10 9 = nI n) : ∀ j i, i + j = n → Ev2 G mX7_livingBy 1 10 [(0, .ref 10), (2, .int (drwV (fun h => μ (43 + h) 8) seed i)), (3, .long (lotV seed i)), (5, .int (nI i))] [] μ (fun v μ' => v = some (.int (drwV (fun h => μ (43 + h) 8) seed n)) ∧ μ' = μ) := by
  intro j
  induction j with
  | zero =>
    intro i hi
    obtain rfl : i = n := by omega
    refine sg_X7_livingBy_10 ⟨fun _ => ⟨rfl, rfl⟩, fun c => ?_⟩
    rw [hc] at c
    exact absurd (nI_le (Nat.le_refl i) (by omega)) c
  | succ j ih =>
    intro i hi
    have h := ih (i + 1) (by omega)
    rw [← nI_1] at h
    have ep : drwV (fun h => μ (43 + h) 8) seed (i + 1) = if lg_cmp (lrem (lotV seed (i + 1)) 100) (Int32.toInt64 (μ (43 + i) 8)) < 0 then drwV (fun h => μ (43 + h) 8) seed i else drwV (fun h => μ (43 + h) 8) seed i ||| (1 <<< (nI i &&& 31)) := rfl
    rw [ep] at h
    refine sg_X7_livingBy_10 ⟨fun c => ?_, fun _ => ⟨vp_nI (by omega) (by omega), ?_⟩⟩
    · rw [hc] at c
      exact absurd c (nI_ge (by omega) (by omega))
    · rw [ix_nI (by omega)]
      refine ⟨fun c => ?_, fun c => ?_⟩
      · have c : lg_cmp (lrem (lotV seed (i + 1)) 100) (Int32.toInt64 (μ (43 + i) 8)) < 0 := c
        rw [if_pos c] at h
        exact h
      · have c : ¬ lg_cmp (lrem (lotV seed (i + 1)) 100) (Int32.toInt64 (μ (43 + i) 8)) < 0 := c
        rw [if_neg c] at h
        intro y hy
        rw [hy]
        exact h
theorem ct_X7_livingBy {G : GW} (x1 : Int32) (μ : Mem) (hp : ∃ n, n ≤ 7 ∧ μ 10 9 = nI n) : Ev2 G mX7_livingBy 1 0 [(0, .ref 10), (1, .int x1)] [] μ (fun v μ' => v = some (.int (drwV (fun h => μ (43 + h) 8) x1 (μ 10 9).toNatClampNeg)) ∧ μ' = μ) := by
  obtain ⟨n, hn, hc⟩ := hp
  rw [hc, ix_nI (by omega)]
  exact sg_X7_livingBy_0 (lp_X7_livingBy x1 μ hn hc n 0 (by omega))
def gcF : Nat → Int32 → Int32 → Int32
  | 0, a, _ => imax 1 a
  | f + 1, a, b => if b = 0 then imax 1 a else gcF f b (irem a b)
theorem sg_X7_greatestCommon_0 {G : GW} {K : Option Value → Mem → Prop} {μ : Mem} {x0 x1 : Int32}  (h : Ev2 G mX7_greatestCommon 2 7 [(2, .int x0), (3, .int x1), (4, .int 0)] [] μ K) : Ev2 G mX7_greatestCommon 2 0 [(0, .int x0), (1, .int x1)] [] μ K := by
  refine ev_iload_n dX7_greatestCommon_0 0 rfl ?_
  refine ev_istore_n (lv' := [(0, .int x0), (1, .int x1), (2, .int x0)]) dX7_greatestCommon_1 (by decide) [1, 2, 0] rfl ?_
  refine ev_iload_n dX7_greatestCommon_2 1 rfl ?_
  refine ev_istore_n (lv' := [(0, .int x0), (1, .int x1), (2, .int x0), (3, .int x1)]) dX7_greatestCommon_3 (by decide) [1, 2, 3, 0] rfl ?_
  refine ev_iconst (v := 0) dX7_greatestCommon_4 rfl ?_
  refine ev_istore (lv' := [(0, .int x0), (1, .int x1), (2, .int x0), (3, .int x1), (4, .int 0)]) dX7_greatestCommon_5 (by decide) [1, 2, 3, 4, 0] rfl ?_
  refine EvW.less [2, 3, 4] (lv' := [(2, .int x0), (3, .int x1), (4, .int 0)]) rfl ?_
  exact h
theorem sg_X7_greatestCommon_7 {G : GW} {K : Option Value → Mem → Prop} {μ : Mem} {x2 x3 x4 : Int32}  (h : ((64 ≤ x4) → K (some (.int (imax 1 x2))) μ) ∧ ((¬ (64 ≤ x4)) → ((x3 = 0) → K (some (.int (imax 1 x2))) μ) ∧ ((¬ (x3 = 0)) → (¬ x3 = 0) ∧ Ev2 G mX7_greatestCommon 2 7 [(2, .int x3), (3, .int (x2 - x2 / x3 * x3)), (4, .int (x4 + 1))] [] μ K))) : Ev2 G mX7_greatestCommon 2 7 [(2, .int x2), (3, .int x3), (4, .int x4)] [] μ K := by
  refine ev_iload dX7_greatestCommon_7 2 rfl ?_
  refine ev_bipush (v := 64) dX7_greatestCommon_9 rfl ?_
  refine ev_icmp_ge (tgt := 34) dX7_greatestCommon_11 rfl (fun c1 => ?_) (fun c1 => ?_)
  · have h2 := h.1 c1
    refine ev_iconst (v := 1) dX7_greatestCommon_34 rfl ?_
    refine ev_iload_n dX7_greatestCommon_35 0 rfl ?_
    refine ev_max ml_7_202 dX7_greatestCommon_36 (Nat.le_of_ble_eq_true rfl) (by decide) ⟨Nat.le_refl _, Nat.le_refl _⟩ ?_
    exact ev_ireturn dX7_greatestCommon_39 rfl True.intro rfl rfl ⟨rfl, h2⟩
  · have h3 := h.2 c1
    refine ev_iload_n dX7_greatestCommon_14 1 rfl ?_
    refine ev_if_eq (tgt := 34) dX7_greatestCommon_15 rfl (fun c4 => ?_) (fun c4 => ?_)
    · have h5 := h3.1 c4
      refine ev_iconst (v := 1) dX7_greatestCommon_34 rfl ?_
      refine ev_iload_n dX7_greatestCommon_35 0 rfl ?_
      refine ev_max ml_7_202 dX7_greatestCommon_36 (Nat.le_of_ble_eq_true rfl) (by decide) ⟨Nat.le_refl _, Nat.le_refl _⟩ ?_
      exact ev_ireturn dX7_greatestCommon_39 rfl True.intro rfl rfl ⟨rfl, h5⟩
    · have h6 := h3.2 c4
      refine ev_iload_n dX7_greatestCommon_18 0 rfl ?_
      refine ev_iload_n dX7_greatestCommon_19 1 rfl ?_
      have p7 := h6.1
      have h8 := h6.2
      refine ev_irem dX7_greatestCommon_20 p7 ?_
      refine ev_istore (lv' := [(2, .int x2), (3, .int x3), (4, .int x4), (5, .int (x2 - x2 / x3 * x3))]) dX7_greatestCommon_21 (by decide) [1, 2, 3, 0] rfl ?_
      refine ev_iload_n dX7_greatestCommon_23 1 rfl ?_
      refine ev_istore_n (lv' := [(2, .int x3), (3, .int x3), (4, .int x4), (5, .int (x2 - x2 / x3 * x3))]) dX7_greatestCommon_24 (by decide) [0, 1, 2, 3] rfl ?_
      refine ev_iload dX7_greatestCommon_25 3 rfl ?_
      refine ev_istore_n (lv' := [(2, .int x3), (3, .int (x2 - x2 / x3 * x3)), (4, .int x4), (5, .int (x2 - x2 / x3 * x3))]) dX7_greatestCommon_27 (by decide) [1, 0, 2, 3] rfl ?_
      refine ev_iinc (v := (x4 + 1)) (lv' := [(2, .int x3), (3, .int (x2 - x2 / x3 * x3)), (4, .int (x4 + 1)), (5, .int (x2 - x2 / x3 * x3))]) dX7_greatestCommon_28 2 rfl rfl (by decide) [1, 2, 0, 3] rfl ?_
      refine ev_goto (tgt := 7) dX7_greatestCommon_31 rfl ?_
      refine EvW.less [0, 1, 2] (lv' := [(2, .int x3), (3, .int (x2 - x2 / x3 * x3)), (4, .int (x4 + 1))]) rfl ?_
      exact h8
theorem lp_X7_greatestCommon {G : GW} (μ : Mem) : ∀ j i (a b : Int32), i + j = 64 → Ev2 G mX7_greatestCommon 2 7 [(2, .int a), (3, .int b), (4, .int (nI i))] [] μ (fun v μ' => v = some (.int (gcF j a b)) ∧ μ' = μ) := by
  intro j
  induction j with
  | zero =>
    intro i a b hi
    obtain rfl : i = 64 := by omega
    exact sg_X7_greatestCommon_7 ⟨fun _ => ⟨rfl, rfl⟩, fun c => absurd (nI_le (a := 64) (Nat.le_refl 64) (by omega)) c⟩
  | succ j ih =>
    intro i a b hi
    have h := ih (i + 1) b (irem a b) (by omega)
    rw [← nI_1] at h
    have ep : gcF (j + 1) a b = if b = 0 then imax 1 a else gcF j b (irem a b) := rfl
    rw [ep]
    refine sg_X7_greatestCommon_7 ⟨fun c => absurd c (nI_ge (b := 64) (by omega) (by omega)), fun _ => ⟨fun c => ?_, fun c => ⟨c, ?_⟩⟩⟩
    · rw [if_pos c]
      exact ⟨rfl, rfl⟩
    · rw [if_neg c]
      exact h
theorem ct_X7_greatestCommon {G : GW} (x0 x1 : Int32) (μ : Mem) : Ev2 G mX7_greatestCommon 2 0 [(0, .int x0), (1, .int x1)] [] μ (fun v μ' => v = some (.int (gcF 64 x0 x1)) ∧ μ' = μ) := sg_X7_greatestCommon_0 (lp_X7_greatestCommon μ 64 0 x0 x1 rfl)
/-! sheets -/
def holdsB (z i n : Int32) : Bool := decide (0 ≤ i) && (decide (0 ≤ n) && (decide (n ≤ z) && decide (i ≤ z - n)))
def numF (μ : Mem) (o : Nat) (i : Int32) : Int32 := if holdsB (μ o 2) i 1 = true then μ (o + 1) i.toNatClampNeg else 0
def narF (sort v : Int32) : Int32 := if sort = 0 then v.toInt8.toInt32 else if sort = 1 then v.toInt16.toInt32 else v
def putM (μ : Mem) (o : Nat) (i v : Int32) : Mem := if holdsB (μ o 2) i 1 = true then mset μ (o + 1) i.toNatClampNeg (narF (μ o 1) v) else μ
def szOK (μ : Mem) (o : Nat) : Prop := ∃ z, z ≤ 40 ∧ μ o 2 = nI z
def becomeS (μ : Mem) (o : Nat) (sort size : Int32) : Mem := mrow (mset (mset μ o 1 sort) o 2 (imax 0 (imin size 40))) (o + 1) (fun k => if k < 40 then 0 else μ (o + 1) k)
theorem sg_X4_isMissing_0 {G : GW} {K : Option Value → Mem → Prop} {μ : Mem} {o : Nat} (ho : isSh o) (h : ((¬ (μ o 1) = (-1)) → K (some (.int 0)) μ) ∧ (((μ o 1) = (-1)) → K (some (.int 1)) μ)) : Ev2 G mX4_isMissing 1 0 [(0, .ref o)] [] μ K := by
  refine ev_aload_n dX4_isMissing_0 0 rfl (nzSh ho) ?_
  refine ev_getI' (v := (μ o 1)) fl_4_15 rfl (kdSh ho) rfl dX4_isMissing_1 ?_
  refine ev_iconst (v := (-1)) dX4_isMissing_4 rfl ?_
  refine ev_icmp_ne (tgt := 12) dX4_isMissing_5 rfl (fun c1 => ?_) (fun c1 => ?_)
  · have h2 := h.1 c1
    refine ev_iconst (v := 0) dX4_isMissing_12 rfl ?_
    exact ev_ireturn dX4_isMissing_13 rfl rfl rfl rfl ⟨rfl, h2⟩
  · have h3 := h.2 c1
    refine ev_iconst (v := 1) dX4_isMissing_8 rfl ?_
    refine ev_goto (tgt := 13) dX4_isMissing_9 rfl ?_
    exact ev_ireturn dX4_isMissing_13 rfl rfl rfl rfl ⟨rfl, h3⟩
theorem ct_X4_isMissing {G : GW} (o : Nat) (ho : isSh o) (μ : Mem) : Ev2 G mX4_isMissing 1 0 [(0, .ref o)] [] μ (fun v μ' => v = some (.int (bi (decide (μ o 1 = -1)))) ∧ μ' = μ) := by
  refine sg_X4_isMissing_0 ho ?_
  repeat' (first | intro _ | apply And.intro)
  all_goals simp_all [bi, bi, ← Int32.not_lt]
theorem sg_X4_holds_0 {G : GW} {K : Option Value → Mem → Prop} {μ : Mem} {o : Nat} {x1 x2 : Int32} (ho : isSh o) (h : ((x1 < 0) → K (some (.int 0)) μ) ∧ ((¬ (x1 < 0)) → ((x2 < 0) → K (some (.int 0)) μ) ∧ ((¬ (x2 < 0)) → (((μ o 2) < x2) → K (some (.int 0)) μ) ∧ ((¬ ((μ o 2) < x2)) → ((((μ o 2) - x2) < x1) → K (some (.int 0)) μ) ∧ ((¬ (((μ o 2) - x2) < x1)) → K (some (.int 1)) μ))))) : Ev2 G mX4_holds 1 0 [(0, .ref o), (1, .int x1), (2, .int x2)] [] μ K := by
  refine ev_iload_n dX4_holds_0 1 rfl ?_
  refine ev_if_lt (tgt := 30) dX4_holds_1 rfl (fun c1 => ?_) (fun c1 => ?_)
  · have h2 := h.1 c1
    refine ev_iconst (v := 0) dX4_holds_30 rfl ?_
    exact ev_ireturn dX4_holds_31 rfl rfl rfl rfl ⟨rfl, h2⟩
  · have h3 := h.2 c1
    refine ev_iload_n dX4_holds_4 2 rfl ?_
    refine ev_if_lt (tgt := 30) dX4_holds_5 rfl (fun c4 => ?_) (fun c4 => ?_)
    · have h5 := h3.1 c4
      refine ev_iconst (v := 0) dX4_holds_30 rfl ?_
      exact ev_ireturn dX4_holds_31 rfl rfl rfl rfl ⟨rfl, h5⟩
    · have h6 := h3.2 c4
      refine ev_iload_n dX4_holds_8 2 rfl ?_
      refine ev_aload_n dX4_holds_9 0 rfl (nzSh ho) ?_
      refine ev_getI' (v := (μ o 2)) fl_4_19 rfl (kdSh ho) rfl dX4_holds_10 ?_
      refine ev_icmp_gt (tgt := 30) dX4_holds_13 rfl (fun c7 => ?_) (fun c7 => ?_)
      · have h8 := h6.1 c7
        refine ev_iconst (v := 0) dX4_holds_30 rfl ?_
        exact ev_ireturn dX4_holds_31 rfl rfl rfl rfl ⟨rfl, h8⟩
      · have h9 := h6.2 c7
        refine ev_iload_n dX4_holds_16 1 rfl ?_
        refine ev_aload_n dX4_holds_17 0 rfl (nzSh ho) ?_
        refine ev_getI' (v := (μ o 2)) fl_4_19 rfl (kdSh ho) rfl dX4_holds_18 ?_
        refine ev_iload_n dX4_holds_21 2 rfl ?_
        refine ev_isub dX4_holds_22 ?_
        refine ev_icmp_gt (tgt := 30) dX4_holds_23 rfl (fun c10 => ?_) (fun c10 => ?_)
        · have h11 := h9.1 c10
          refine ev_iconst (v := 0) dX4_holds_30 rfl ?_
          exact ev_ireturn dX4_holds_31 rfl rfl rfl rfl ⟨rfl, h11⟩
        · have h12 := h9.2 c10
          refine ev_iconst (v := 1) dX4_holds_26 rfl ?_
          refine ev_goto (tgt := 31) dX4_holds_27 rfl ?_
          exact ev_ireturn dX4_holds_31 rfl rfl rfl rfl ⟨rfl, h12⟩
theorem ct_X4_holds {G : GW} (o : Nat) (ho : isSh o) (x1 x2 : Int32) (μ : Mem) : Ev2 G mX4_holds 1 0 [(0, .ref o), (1, .int x1), (2, .int x2)] [] μ (fun v μ' => v = some (.int (bi (holdsB (μ o 2) x1 x2))) ∧ μ' = μ) := by
  refine sg_X4_holds_0 ho ?_
  repeat' (first | intro _ | apply And.intro)
  all_goals simp_all [holdsB, bi, ← Int32.not_lt]
theorem holdsB_1 {z : Nat} {i : Int32} (hz : z ≤ 40) (h : holdsB (nI z) i 1 = true) : ∃ k, k < z ∧ i = nI k := by
  simp only [holdsB, Bool.and_eq_true, decide_eq_true_eq] at h
  obtain ⟨h1, -, h3, h4⟩ := h
  have e0 : (0 : Int32).toInt = 0 := by decide
  have e1 : (1 : Int32).toInt = 1 := by decide
  rw [i_le] at h1 h3 h4
  rw [e1, nI_toInt (by omega)] at h3
  rw [i_sub (by rw [nI_toInt (by omega), e1]; omega), nI_toInt (by omega), e1] at h4
  refine ⟨i.toInt.toNat, by omega, ?_⟩
  rw [i_eq, nI_toInt (by omega)]
  omega
theorem sg_X4_numberAt_0 {G : GW} {K : Option Value → Mem → Prop} {μ : Mem} {o : Nat} {x1 : Int32} (ho : isSh o) (h : (((holdsB (μ o 2) x1 (1 : Int32)) = false) → K (some (.int 0)) μ) ∧ (((holdsB (μ o 2) x1 (1 : Int32)) = true) → (vp_in x1 40) ∧ K (some (.int (μ (o + 1) x1.toNatClampNeg))) μ)) : Ev2 G mX4_numberAt 2 0 [(0, .ref o), (1, .int x1)] [] μ K := by
  refine ev_aload_n dX4_numberAt_0 0 rfl (nzSh ho) ?_
  refine ev_iload_n dX4_numberAt_1 1 rfl ?_
  refine ev_iconst (v := 1) dX4_numberAt_2 rfl ?_
  refine e2_callV (w := .int (bi (holdsB (μ o 2) x1 (1 : Int32)))) (μ1 := μ) (a := o) (as := [.int x1, .int 1]) (st := []) ok_X4_holds vi_X4_holds ml_4_31 hcl_4 (kdSh ho) dX4_numberAt_3 rfl rfl (Nat.le_of_ble_eq_true rfl) (Nat.le_of_ble_eq_true rfl) (by decide) (ct_X4_holds o ho (x1) (1) μ) ?_
  refine ev_ifeq_bi (tgt := 18) dX4_numberAt_6 rfl (fun c1 => ?_) (fun c1 => ?_)
  · have h2 := h.1 c1
    refine ev_iconst (v := 0) dX4_numberAt_18 rfl ?_
    exact ev_ireturn dX4_numberAt_19 rfl True.intro rfl rfl ⟨rfl, h2⟩
  · have h3 := h.2 c1
    refine ev_aload_n dX4_numberAt_9 0 rfl (nzSh ho) ?_
    refine ev_getR' fl_4_9 rfl (kdSh ho) (rfSh0 ho) dX4_numberAt_10 ?_
    refine ev_iload_n dX4_numberAt_13 1 rfl ?_
    have p4 := h3.1
    have h5 := h3.2
    refine ev_iaload' (v := (μ (o + 1) x1.toNatClampNeg)) (kdSh0 ho) (lnSh0 ho) p4 rfl dX4_numberAt_14 ?_
    refine ev_goto (tgt := 19) dX4_numberAt_15 rfl ?_
    exact ev_ireturn dX4_numberAt_19 rfl True.intro rfl rfl ⟨rfl, h5⟩
theorem ct_X4_numberAt {G : GW} (o : Nat) (ho : isSh o) (x1 : Int32) (μ : Mem) (hp : szOK μ o) : Ev2 G mX4_numberAt 2 0 [(0, .ref o), (1, .int x1)] [] μ (fun v μ' => v = some (.int (numF μ o x1)) ∧ μ' = μ) := by
  obtain ⟨z, hz, e⟩ := hp
  unfold numF
  refine sg_X4_numberAt_0 ho ⟨fun c => ⟨?_, rfl⟩, fun c => ⟨?_, ?_, rfl⟩⟩
  · rw [if_neg (by rw [c]; decide)]
  · rw [e] at c
    obtain ⟨k, hk, rfl⟩ := holdsB_1 hz c
    exact vp_nI (by omega) (by omega)
  · rw [if_pos c]
theorem sg_X4_put_0 {G : GW} {K : Option Value → Mem → Prop} {μ : Mem} {o : Nat} {x1 x2 : Int32} (ho : isSh o) (h : (((holdsB (μ o 2) x1 (1 : Int32)) = false) → K none μ) ∧ (((holdsB (μ o 2) x1 (1 : Int32)) = true) → ((¬ (μ o 1) = 0) → ((¬ (μ o 1) = 1) → (vp_in x1 40) ∧ K none (mset μ (o + 1) x1.toNatClampNeg x2)) ∧ (((μ o 1) = 1) → (vp_in x1 40) ∧ K none (mset μ (o + 1) x1.toNatClampNeg (Int32.toInt16 x2).toInt32))) ∧ (((μ o 1) = 0) → (vp_in x1 40) ∧ K none (mset μ (o + 1) x1.toNatClampNeg (Int32.toInt8 x2).toInt32)))) : Ev2 G mX4_put 2 0 [(0, .ref o), (1, .int x1), (2, .int x2)] [] μ K := by
  refine ev_aload_n dX4_put_0 0 rfl (nzSh ho) ?_
  refine ev_iload_n dX4_put_1 1 rfl ?_
  refine ev_iconst (v := 1) dX4_put_2 rfl ?_
  refine e2_callV (w := .int (bi (holdsB (μ o 2) x1 (1 : Int32)))) (μ1 := μ) (a := o) (as := [.int x1, .int 1]) (st := []) ok_X4_holds vi_X4_holds ml_4_31 hcl_4 (kdSh ho) dX4_put_3 rfl rfl (Nat.le_of_ble_eq_true rfl) (Nat.le_of_ble_eq_true rfl) (by decide) (ct_X4_holds o ho (x1) (1) μ) ?_
  refine ev_ifeq_bi (tgt := 41) dX4_put_6 rfl (fun c1 => ?_) (fun c1 => ?_)
  · have h2 := h.1 c1
    exact ev_return dX4_put_41 rfl rfl rfl ⟨rfl, h2⟩
  · have h3 := h.2 c1
    refine ev_aload_n dX4_put_9 0 rfl (nzSh ho) ?_
    refine ev_getR' fl_4_9 rfl (kdSh ho) (rfSh0 ho) dX4_put_10 ?_
    refine ev_iload_n dX4_put_13 1 rfl ?_
    refine ev_aload_n dX4_put_14 0 rfl (nzSh ho) ?_
    refine ev_getI' (v := (μ o 1)) fl_4_15 rfl (kdSh ho) rfl dX4_put_15 ?_
    refine ev_if_ne (tgt := 26) dX4_put_18 rfl (fun c4 => ?_) (fun c4 => ?_)
    · have h5 := h3.1 c4
      refine ev_aload_n dX4_put_26 0 rfl (nzSh ho) ?_
      refine ev_getI' (v := (μ o 1)) fl_4_15 rfl (kdSh ho) rfl dX4_put_27 ?_
      refine ev_iconst (v := 1) dX4_put_30 rfl ?_
      refine ev_icmp_ne (tgt := 39) dX4_put_31 rfl (fun c7 => ?_) (fun c7 => ?_)
      · have h8 := h5.1 c7
        refine ev_iload_n dX4_put_39 2 rfl ?_
        have p10 := h8.1
        have h11 := h8.2
        refine ev_iastore' (j := x1.toNatClampNeg) (kdSh0 ho) (lnSh0 ho) p10 rfl dX4_put_40 ?_
        exact ev_return dX4_put_41 rfl rfl rfl ⟨rfl, h11⟩
      · have h9 := h5.2 c7
        refine ev_iload_n dX4_put_34 2 rfl ?_
        refine ev_i2s dX4_put_35 ?_
        refine ev_goto (tgt := 40) dX4_put_36 rfl ?_
        have p12 := h9.1
        have h13 := h9.2
        refine ev_iastore' (j := x1.toNatClampNeg) (kdSh0 ho) (lnSh0 ho) p12 rfl dX4_put_40 ?_
        exact ev_return dX4_put_41 rfl rfl rfl ⟨rfl, h13⟩
    · have h6 := h3.2 c4
      refine ev_iload_n dX4_put_21 2 rfl ?_
      refine ev_i2b dX4_put_22 ?_
      refine ev_goto (tgt := 40) dX4_put_23 rfl ?_
      have p14 := h6.1
      have h15 := h6.2
      refine ev_iastore' (j := x1.toNatClampNeg) (kdSh0 ho) (lnSh0 ho) p14 rfl dX4_put_40 ?_
      exact ev_return dX4_put_41 rfl rfl rfl ⟨rfl, h15⟩
theorem ct_X4_put {G : GW} (o : Nat) (ho : isSh o) (x1 x2 : Int32) (μ : Mem) (hp : szOK μ o) : Ev2 G mX4_put 2 0 [(0, .ref o), (1, .int x1), (2, .int x2)] [] μ (fun v μ' => v = none ∧ μ' = putM μ o x1 x2) := by
  obtain ⟨z, hz, e⟩ := hp
  unfold putM narF
  have hv : holdsB (μ o 2) x1 1 = true → vp_in x1 40 := fun c => by
    rw [e] at c
    obtain ⟨k, hk, rfl⟩ := holdsB_1 hz c
    exact vp_nI (by omega) (by omega)
  refine sg_X4_put_0 ho ⟨fun c => ⟨rfl, ?_⟩, fun c => ⟨fun c0 => ⟨fun c1 => ⟨hv c, rfl, ?_⟩, fun c1 => ⟨hv c, rfl, ?_⟩⟩, fun c0 => ⟨hv c, rfl, ?_⟩⟩⟩
  · rw [if_neg (by rw [c]; decide)]
  · rw [if_pos c, if_neg c0, if_neg c1]
  · rw [if_pos c, if_neg c0, if_pos c1]
  · rw [if_pos c, if_pos c0]
theorem sg_X4_become_0 {G : GW} {K : Option Value → Mem → Prop} {μ : Mem} {o : Nat} {x1 x2 : Int32} (ho : isSh o) (h : Ev2 G mX4_become 2 21 [(0, .ref o), (3, .int 0)] [] (mset (mset μ o 1 x1) o 2 (imax 0 (imin x2 40))) K) : Ev2 G mX4_become 2 0 [(0, .ref o), (1, .int x1), (2, .int x2)] [] μ K := by
  refine ev_aload_n dX4_become_0 0 rfl (nzSh ho) ?_
  refine ev_iload_n dX4_become_1 1 rfl ?_
  refine ev_putI fl_4_15 ⟨rfl, rfl, rfl⟩ (fun r hr => by cases hr; rfl) (kdSh ho) dX4_become_2 ?_
  refine ev_aload_n dX4_become_5 0 rfl (nzSh ho) ?_
  refine ev_iconst (v := 0) dX4_become_6 rfl ?_
  refine ev_iload_n dX4_become_7 2 rfl ?_
  refine ev_bipush (v := 40) dX4_become_8 rfl ?_
  refine ev_min ml_4_22 dX4_become_10 (Nat.le_of_ble_eq_true rfl) (by decide) ⟨Nat.le_refl _, Nat.le_refl _⟩ ?_
  refine ev_max ml_4_28 dX4_become_13 (Nat.le_of_ble_eq_true rfl) (by decide) ⟨Nat.le_refl _, Nat.le_refl _⟩ ?_
  refine ev_putI fl_4_19 ⟨rfl, rfl, rfl⟩ (fun r hr => by cases hr; rfl) (kdSh ho) dX4_become_16 ?_
  refine ev_iconst (v := 0) dX4_become_19 rfl ?_
  refine ev_istore_n (lv' := [(0, .ref o), (1, .int x1), (2, .int x2), (3, .int 0)]) dX4_become_20 (by decide) [1, 2, 3, 0] rfl ?_
  refine EvW.less [0, 3] (lv' := [(0, .ref o), (3, .int 0)]) rfl ?_
  exact h
theorem sg_X4_become_21 {G : GW} {K : Option Value → Mem → Prop} {μ : Mem} {o : Nat} {x3 : Int32} (ho : isSh o) (h : ((40 ≤ x3) → K none μ) ∧ ((¬ (40 ≤ x3)) → (vp_in x3 40) ∧ Ev2 G mX4_become 2 21 [(0, .ref o), (3, .int (x3 + 1))] [] (mset μ (o + 1) x3.toNatClampNeg 0) K)) : Ev2 G mX4_become 2 21 [(0, .ref o), (3, .int x3)] [] μ K := by
  refine ev_iload_n dX4_become_21 1 rfl ?_
  refine ev_bipush (v := 40) dX4_become_22 rfl ?_
  refine ev_icmp_ge (tgt := 40) dX4_become_24 rfl (fun c1 => ?_) (fun c1 => ?_)
  · have h2 := h.1 c1
    exact ev_return dX4_become_40 rfl rfl rfl ⟨rfl, h2⟩
  · have h3 := h.2 c1
    refine ev_aload_n dX4_become_27 0 rfl (nzSh ho) ?_
    refine ev_getR' fl_4_9 rfl (kdSh ho) (rfSh0 ho) dX4_become_28 ?_
    refine ev_iload_n dX4_become_31 1 rfl ?_
    refine ev_iconst (v := 0) dX4_become_32 rfl ?_
    have p4 := h3.1
    have h5 := h3.2
    refine ev_iastore' (j := x3.toNatClampNeg) (kdSh0 ho) (lnSh0 ho) p4 rfl dX4_become_33 ?_
    refine ev_iinc (v := (x3 + 1)) (lv' := [(0, .ref o), (3, .int (x3 + 1))]) dX4_become_34 1 rfl rfl (by decide) [1, 0] rfl ?_
    refine ev_goto (tgt := 21) dX4_become_37 rfl ?_
    exact h5
theorem lp_X4_become {G : GW} {o : Nat} (ho : isSh o) (μ : Mem) : ∀ j i, i + j = 40 → Ev2 G mX4_become 2 21 [(0, .ref o), (3, .int (nI i))] [] (mrow μ (o + 1) (fun k => if k < i then 0 else μ (o + 1) k)) (fun v μ' => v = none ∧ μ' = mrow μ (o + 1) (fun k => if k < 40 then 0 else μ (o + 1) k)) := by
  intro j
  induction j with
  | zero =>
    intro i hi
    obtain rfl : i = 40 := by omega
    exact sg_X4_become_21 ho ⟨fun _ => ⟨rfl, rfl⟩, fun c => absurd (nI_le (a := 40) (Nat.le_refl 40) (by omega)) c⟩
  | succ j ih =>
    intro i hi
    have h := ih (i + 1) (by omega)
    rw [← nI_1] at h
    refine sg_X4_become_21 ho ⟨fun c => absurd c (nI_ge (b := 40) (by omega) (by omega)), fun _ => ⟨vp_nI (by omega) (by omega), ?_⟩⟩
    rw [ix_nI (by omega), mset_row, mrow_mrow, mrow_same]
    have e : up (fun k => if k < i then 0 else μ (o + 1) k) i 0 = fun k => if k < i + 1 then 0 else μ (o + 1) k := by
      funext k
      unfold up
      by_cases h1 : k = i
      · rw [if_pos h1, if_pos (by omega)]
      · rw [if_neg h1]
        dsimp only
        by_cases h2 : k < i
        · rw [if_pos h2, if_pos (by omega)]
        · rw [if_neg h2, if_neg (by omega)]
    rw [e]
    exact h
theorem ct_X4_become {G : GW} (o : Nat) (ho : isSh o) (x1 x2 : Int32) (μ : Mem) : Ev2 G mX4_become 2 0 [(0, .ref o), (1, .int x1), (2, .int x2)] [] μ (fun v μ' => v = none ∧ μ' = becomeS μ o x1 x2) := by
  have h := lp_X4_become (G := G) ho (mset (mset μ o 1 x1) o 2 (imax 0 (imin x2 40))) 40 0 rfl
  have e0 : mrow (mset (mset μ o 1 x1) o 2 (imax 0 (imin x2 40))) (o + 1) (fun k => if k < 0 then 0 else (mset (mset μ o 1 x1) o 2 (imax 0 (imin x2 40))) (o + 1) k) = mset (mset μ o 1 x1) o 2 (imax 0 (imin x2 40)) := mrow_self _ _
  rw [e0] at h
  have e1 : (mset (mset μ o 1 x1) o 2 (imax 0 (imin x2 40))) (o + 1) = μ (o + 1) := by
    funext k
    rw [mset_other (by omega), mset_other (by omega)]
  rw [e1] at h
  exact sg_X4_become_0 ho h
