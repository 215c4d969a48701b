/-! ===== the class: what is soon, and by whom ===== -/
/-- all but the search's own rows -/
def sameQ (μ ν : Mem) : Prop := ∀ a, ¬ (26 ≤ a ∧ a ≤ 31) → ν a = μ a
theorem sameQ.rf (μ : Mem) : sameQ μ μ := fun _ _ => rfl
theorem sameQ.tr {μ ν ξ : Mem} (h1 : sameQ μ ν) (h2 : sameQ ν ξ) : sameQ μ ξ := fun a ha => (h2 a ha).trans (h1 a ha)
theorem sameQ.env {μ ν : Mem} (h : sameQ μ ν) : goX ν = goX μ ∧ tmX ν = tmX μ ∧ wX ν = wX μ := ⟨(goX_row (fun a ha => h a (by omega))).1, (goX_row (fun a ha => h a (by omega))).2, wX_row (fun a h1 h2 => h a (by omega))⟩
def soonR (μ : Mem) (set : Int32) (a b : Nat) (x : Int32) (ν : Mem) : Prop := x = soonV (goX μ) (tmX μ) (wX μ) set a b ∧ sameQ μ ν ∧ eq7 (get4 27 ν) (runV (goX μ) (tmX μ) (wX μ) set (nI b) a)
theorem sg_X7_soonWith_0 {G : GW} {K : Option Value → Mem → Prop} {μ : Mem} {x1 x2 x3 : Int32}  (h : (vp_in x2 7 ∧ goOK (goX μ) x1) ∧ (vp_in x3 7) ∧ K (some (.int ((put4 27 μ (stopRun (goX μ) (tmX μ) (wX μ) 7 x1 x3 7 (initS 1000000000 x2 x2.toNatClampNeg (get4 27 μ)))) 27 x3.toNatClampNeg))) (put4 27 μ (stopRun (goX μ) (tmX μ) (wX μ) 7 x1 x3 7 (initS 1000000000 x2 x2.toNatClampNeg (get4 27 μ))))) : Ev2 G mX7_soonWith 6 0 [(0, .ref 10), (1, .int x1), (2, .int x2), (3, .int x3)] [] μ K := by
  refine ev_aload_n dX7_soonWith_0 0 rfl (by decide) ?_
  refine ev_getR' fl_7_43 rfl kd_10 rf_10_6 dX7_soonWith_1 ?_
  refine ev_aload_n dX7_soonWith_4 0 rfl (by decide) ?_
  refine ev_getR' fl_7_11 rfl kd_10 rf_10_0 dX7_soonWith_5 ?_
  refine ev_aload_n dX7_soonWith_8 0 rfl (by decide) ?_
  refine ev_getR' fl_7_16 rfl kd_10 rf_10_1 dX7_soonWith_9 ?_
  refine ev_iload_n dX7_soonWith_12 1 rfl ?_
  refine ev_iload_n dX7_soonWith_13 2 rfl ?_
  refine ev_iload_n dX7_soonWith_14 3 rfl ?_
  have p1 := h.1
  have h2 := h.2
  refine e2_callVv (μ1 := (put4 27 μ (stopRun (goX μ) (tmX μ) (wX μ) 7 x1 x3 7 (initS 1000000000 x2 x2.toNatClampNeg (get4 27 μ))))) (a := 26) (as := [.ref 11, .ref 19, .int x1, .int x2, .int x3]) (st := []) ok_X3_setOut vi_X3_setOut ml_7_321 hcl_3 kd_26 dX7_soonWith_15 rfl rfl (Nat.le_of_ble_eq_true rfl) (Nat.le_of_ble_eq_true rfl) (by decide) (ct_X3_setOut (x1) (x2) (x3) μ p1) ?_
  refine ev_aload_n dX7_soonWith_18 0 rfl (by decide) ?_
  refine ev_getR' fl_7_43 rfl kd_10 rf_10_6 dX7_soonWith_19 ?_
  refine ev_iload_n dX7_soonWith_22 3 rfl ?_
  have p3 := h2.1
  have h4 := h2.2
  refine e2_callV (w := .int ((put4 27 μ (stopRun (goX μ) (tmX μ) (wX μ) 7 x1 x3 7 (initS 1000000000 x2 x2.toNatClampNeg (get4 27 μ)))) 27 x3.toNatClampNeg)) (μ1 := (put4 27 μ (stopRun (goX μ) (tmX μ) (wX μ) 7 x1 x3 7 (initS 1000000000 x2 x2.toNatClampNeg (get4 27 μ))))) (a := 26) (as := [.int x3]) (st := []) ok_X3_soonAt vi_X3_soonAt ml_7_256 hcl_3 kd_26 dX7_soonWith_23 rfl rfl (Nat.le_of_ble_eq_true rfl) (Nat.le_of_ble_eq_true rfl) (by decide) (ct_X3_soonAt (x3) (put4 27 μ (stopRun (goX μ) (tmX μ) (wX μ) 7 x1 x3 7 (initS 1000000000 x2 x2.toNatClampNeg (get4 27 μ)))) p3) ?_
  exact ev_ireturn dX7_soonWith_26 rfl True.intro rfl rfl ⟨rfl, h4⟩
theorem ct_X7_soonWith {G : GW} (x1 x2 x3 : Int32) (μ : Mem) (hp : vp_in x2 7 ∧ vp_in x3 7 ∧ goOK (goX μ) x1) : Ev2 G mX7_soonWith 6 0 [(0, .ref 10), (1, .int x1), (2, .int x2), (3, .int x3)] [] μ (fun v μ' => ∃ x, v = some (.int x) ∧ soonR μ x1 x2.toNatClampNeg x3.toNatClampNeg x μ') := by
  obtain ⟨h1, h2, h3⟩ := hp
  obtain ⟨a, ha, rfl⟩ := vp_in_of h1 (by omega)
  obtain ⟨b, hb, rfl⟩ := vp_in_of h2 (by omega)
  refine sg_X7_soonWith_0 ⟨⟨vp_nI ha (by omega), h3⟩, vp_nI hb (by omega), _, rfl, ?_⟩
  rw [ix_nI (by omega), ix_nI (by omega)]
  have h := runV_of (tm := tmX μ) (w := wX μ) (stop := nI b) h3 a (get4 27 μ)
  refine ⟨?_, fun c hc => put4_out (by omega), fun r hr k hk => ?_⟩
  · have e := h 0 (by omega) b hb
    rw [← put4_in (β := 27) (μ := μ) (r := 0) (by omega)] at e
    exact e
  · rw [get_put4 hr]
    exact h r hr k hk
theorem sg_X7_searchAll_0 {G : GW} {K : Option Value → Mem → Prop} {μ : Mem} {x1 : Int32}  (h : (vp_in x1 7 ∧ goOK (goX μ) (((1 <<< (μ 10 9 &&& 31)) - 1))) ∧ K none (put4 27 μ (stopRun (goX μ) (tmX μ) (wX μ) 7 (((1 <<< (μ 10 9 &&& 31)) - 1)) ((-1) : Int32) 7 (initS 1000000000 x1 x1.toNatClampNeg (get4 27 μ))))) : Ev2 G mX7_searchAll 6 0 [(0, .ref 10), (1, .int x1)] [] μ K := by
  refine ev_aload_n dX7_searchAll_0 0 rfl (by decide) ?_
  refine ev_getR' fl_7_43 rfl kd_10 rf_10_6 dX7_searchAll_1 ?_
  refine ev_aload_n dX7_searchAll_4 0 rfl (by decide) ?_
  refine ev_getR' fl_7_11 rfl kd_10 rf_10_0 dX7_searchAll_5 ?_
  refine ev_aload_n dX7_searchAll_8 0 rfl (by decide) ?_
  refine ev_getR' fl_7_16 rfl kd_10 rf_10_1 dX7_searchAll_9 ?_
  refine ev_aload_n dX7_searchAll_12 0 rfl (by decide) ?_
  refine e2_callV (w := .int (((1 <<< (μ 10 9 &&& 31)) - 1))) (μ1 := μ) (a := 10) (as := []) (st := [.ref 19, .ref 11, .ref 26]) ok_X7_allHorses vi_X7_allHorses ml_7_176 hcl_7 kd_10 dX7_searchAll_13 rfl rfl (Nat.le_of_ble_eq_true rfl) (Nat.le_of_ble_eq_true rfl) (by decide) (ct_X7_allHorses μ) ?_
  refine ev_iload_n dX7_searchAll_16 1 rfl ?_
  refine ev_iconst (v := (-1)) dX7_searchAll_17 rfl ?_
  have p1 := h.1
  have h2 := h.2
  refine e2_callVv (μ1 := (put4 27 μ (stopRun (goX μ) (tmX μ) (wX μ) 7 (((1 <<< (μ 10 9 &&& 31)) - 1)) ((-1) : Int32) 7 (initS 1000000000 x1 x1.toNatClampNeg (get4 27 μ))))) (a := 26) (as := [.ref 11, .ref 19, .int (((1 <<< (μ 10 9 &&& 31)) - 1)), .int x1, .int (-1)]) (st := []) ok_X3_setOut vi_X3_setOut ml_7_321 hcl_3 kd_26 dX7_searchAll_18 rfl rfl (Nat.le_of_ble_eq_true rfl) (Nat.le_of_ble_eq_true rfl) (by decide) (ct_X3_setOut ((((1 <<< (μ 10 9 &&& 31)) - 1))) (x1) ((-1)) μ p1) ?_
  exact ev_return dX7_searchAll_21 rfl rfl rfl ⟨rfl, h2⟩
theorem ct_X7_searchAll {G : GW} (x1 : Int32) (μ : Mem) (hp : vp_in x1 7 ∧ goOK (goX μ) (((1 <<< (μ 10 9 &&& 31)) - 1))) : Ev2 G mX7_searchAll 6 0 [(0, .ref 10), (1, .int x1)] [] μ (fun v μ' => v = none ∧ (sameQ μ μ' ∧ eq7 (get4 27 μ') (runV (goX μ) (tmX μ) (wX μ) (((1 <<< (μ 10 9 &&& 31)) - 1)) (-1) x1.toNatClampNeg))) := by
  obtain ⟨h1, h3⟩ := hp
  obtain ⟨a, ha, rfl⟩ := vp_in_of h1 (by omega)
  refine sg_X7_searchAll_0 ⟨⟨vp_nI ha (by omega), h3⟩, rfl, ?_⟩
  rw [ix_nI (by omega)]
  have h := runV_of (tm := tmX μ) (w := wX μ) (stop := -1) h3 a (get4 27 μ)
  refine ⟨fun c hc => put4_out (by omega), fun r hr k hk => ?_⟩
  rw [get_put4 hr]
  exact h r hr k hk
theorem sg_X7_ridden_0 {G : GW} {K : Option Value → Mem → Prop} {μ : Mem} {x1 : Int32}  (h : Ev2 G mX7_ridden 7 4 [(0, .ref 10), (1, .int x1), (2, .int 0), (3, .int 0)] [] μ K) : Ev2 G mX7_ridden 7 0 [(0, .ref 10), (1, .int x1)] [] μ K := by
  refine ev_iconst (v := 0) dX7_ridden_0 rfl ?_
  refine ev_istore_n (lv' := [(0, .ref 10), (1, .int x1), (2, .int 0)]) dX7_ridden_1 (by decide) [1, 2, 0] rfl ?_
  refine ev_iconst (v := 0) dX7_ridden_2 rfl ?_
  refine ev_istore_n (lv' := [(0, .ref 10), (1, .int x1), (2, .int 0), (3, .int 0)]) dX7_ridden_3 (by decide) [1, 2, 3, 0] rfl ?_
  exact h
theorem sg_X7_ridden_4 {G : GW} {K : Option Value → Mem → Prop} {μ : Mem} {x1 x2 x3 : Int32}  (h : (((μ 10 10) ≤ x3) → K (some (.int x2)) μ) ∧ ((¬ ((μ 10 10) ≤ x3)) → (vp_in x3 4) ∧ (vp_in x3 4) ∧ (vp_in (μ 20 x3.toNatClampNeg) 7 ∧ vp_in (μ 21 x3.toNatClampNeg) 7 ∧ goOK (goX μ) x1) ∧ ∀ (x10 : Int32) (μ11 : Mem), (soonR μ x1 (μ 20 x3.toNatClampNeg).toNatClampNeg (μ 21 x3.toNatClampNeg).toNatClampNeg x10 μ11) → Ev2 G mX7_ridden 7 4 [(0, .ref 10), (1, .int x1), (2, .int (x2 + x10)), (3, .int (x3 + 1))] [] μ11 K)) : Ev2 G mX7_ridden 7 4 [(0, .ref 10), (1, .int x1), (2, .int x2), (3, .int x3)] [] μ K := by
  refine ev_iload_n dX7_ridden_4 3 rfl ?_
  refine ev_aload_n dX7_ridden_5 0 rfl (by decide) ?_
  refine ev_getI' (v := (μ 10 10)) fl_7_64 rfl kd_10 rfl dX7_ridden_6 ?_
  refine ev_icmp_ge (tgt := 38) dX7_ridden_9 rfl (fun c1 => ?_) (fun c1 => ?_)
  · have h2 := h.1 c1
    refine ev_iload_n dX7_ridden_38 2 rfl ?_
    exact ev_ireturn dX7_ridden_39 rfl True.intro rfl rfl ⟨rfl, h2⟩
  · have h3 := h.2 c1
    refine ev_iload_n dX7_ridden_12 2 rfl ?_
    refine ev_aload_n dX7_ridden_13 0 rfl (by decide) ?_
    refine ev_iload_n dX7_ridden_14 1 rfl ?_
    refine ev_aload_n dX7_ridden_15 0 rfl (by decide) ?_
    refine ev_getR' fl_7_20 rfl kd_10 rf_10_2 dX7_ridden_16 ?_
    refine ev_iload_n dX7_ridden_19 3 rfl ?_
    have p4 := h3.1
    have h5 := h3.2
    refine ev_iaload' (v := (μ 20 x3.toNatClampNeg)) kd_20 ln_20 p4 rfl dX7_ridden_20 ?_
    refine ev_aload_n dX7_ridden_21 0 rfl (by decide) ?_
    refine ev_getR' fl_7_24 rfl kd_10 rf_10_3 dX7_ridden_22 ?_
    refine ev_iload_n dX7_ridden_25 3 rfl ?_
    have p6 := h5.1
    have h7 := h5.2
    refine ev_iaload' (v := (μ 21 x3.toNatClampNeg)) kd_21 ln_21 p6 rfl dX7_ridden_26 ?_
    have p8 := h7.1
    have h9 := h7.2
    refine e2_callVr (Rl := fun x10 μ11 => soonR μ x1 (μ 20 x3.toNatClampNeg).toNatClampNeg (μ 21 x3.toNatClampNeg).toNatClampNeg x10 μ11) (a := 10) (as := [.int x1, .int (μ 20 x3.toNatClampNeg), .int (μ 21 x3.toNatClampNeg)]) (st := [.int x2]) ok_X7_soonWith vi_X7_soonWith ml_7_179 hcl_7 kd_10 dX7_ridden_27 rfl rfl (Nat.le_of_ble_eq_true rfl) (Nat.le_of_ble_eq_true rfl) (by decide) (ct_X7_soonWith (x1) ((μ 20 x3.toNatClampNeg)) ((μ 21 x3.toNatClampNeg)) μ p8) (fun x10 μ11 r12 => ?_)
    have h13 := h9 x10 μ11 r12
    refine ev_iadd dX7_ridden_30 ?_
    refine ev_istore_n (lv' := [(0, .ref 10), (1, .int x1), (2, .int (x2 + x10)), (3, .int x3)]) dX7_ridden_31 (by decide) [1, 2, 0, 3] rfl ?_
    refine ev_iinc (v := (x3 + 1)) (lv' := [(0, .ref 10), (1, .int x1), (2, .int (x2 + x10)), (3, .int (x3 + 1))]) dX7_ridden_32 3 rfl rfl (by decide) [1, 2, 3, 0] rfl ?_
    refine ev_goto (tgt := 4) dX7_ridden_35 rfl ?_
    exact h13
theorem sg_X7_lives_0 {G : GW} {K : Option Value → Mem → Prop} {μ : Mem} {x1 : Int32}  (h : Ev2 G mX7_lives 2 7 [(0, .ref 10), (1, .int x1), (2, .long (1000000000 : Int64)), (4, .int 0)] [] μ K) : Ev2 G mX7_lives 2 0 [(0, .ref 10), (1, .int x1)] [] μ K := by
  refine ev_ldc2 dX7_lives_0 co_7_325 ?_
  refine ev_lstore_n (lv' := [(0, .ref 10), (1, .int x1), (2, .long (1000000000 : Int64))]) dX7_lives_3 (by decide) [1, 2, 0] rfl ?_
  refine ev_iconst (v := 0) dX7_lives_4 rfl ?_
  refine ev_istore (lv' := [(0, .ref 10), (1, .int x1), (2, .long (1000000000 : Int64)), (4, .int 0)]) dX7_lives_5 (by decide) [1, 2, 3, 0] rfl ?_
  exact h
theorem sg_X7_lives_7 {G : GW} {K : Option Value → Mem → Prop} {μ : Mem} {x1 x4 : Int32} {x2 : Int64}  (h : (((μ 10 9) ≤ x4) → K (some (.long x2)) μ) ∧ ((¬ ((μ 10 9) ≤ x4)) → (vp_in x4 7) ∧ ∀ y6 : Int32, y6 = (μ (43 + x4.toNatClampNeg) 8) → (((bitB x1 x4) = false) → Ev2 G mX7_lives 2 7 [(0, .ref 10), (1, .int x1), (2, .long ((x2 * (Int32.toInt64 y6)) / (100 : Int64))), (4, .int (x4 + 1))] [] μ K) ∧ (((bitB x1 x4) = true) → Ev2 G mX7_lives 2 7 [(0, .ref 10), (1, .int x1), (2, .long ((x2 * (Int32.toInt64 (100 - y6))) / (100 : Int64))), (4, .int (x4 + 1))] [] μ K))) : Ev2 G mX7_lives 2 7 [(0, .ref 10), (1, .int x1), (2, .long x2), (4, .int x4)] [] μ K := by
  refine ev_iload dX7_lives_7 3 rfl ?_
  refine ev_aload_n dX7_lives_9 0 rfl (by decide) ?_
  refine ev_getI' (v := (μ 10 9)) fl_7_60 rfl kd_10 rfl dX7_lives_10 ?_
  refine ev_icmp_ge (tgt := 61) dX7_lives_13 rfl (fun c1 => ?_) (fun c1 => ?_)
  · have h2 := h.1 c1
    refine ev_lload_n dX7_lives_61 2 rfl ?_
    exact ev_lreturn dX7_lives_62 rfl rfl rfl ⟨rfl, h2⟩
  · have h3 := h.2 c1
    refine ev_aload_n dX7_lives_16 0 rfl (by decide) ?_
    refine ev_getR' fl_7_16 rfl kd_10 rf_10_1 dX7_lives_17 ?_
    refine ev_iload dX7_lives_20 3 rfl ?_
    have p4 := h3.1
    have h5 := h3.2
    refine ev_aaload' (k := 5) kd_19 (by omega) ln_19 p4 (raH p4) dX7_lives_22 ?_
    refine ev_getI' (v := (μ (43 + x4.toNatClampNeg) 8)) fl_7_137 rfl (kdHo (isH p4)) rfl dX7_lives_23 ?_
    refine ev_top (fun y6 ey6 => ?_)
    have h7 := h5 y6 ey6
    refine ev_istore (lv' := [(0, .ref 10), (1, .int x1), (2, .long x2), (4, .int x4), (5, .int y6)]) dX7_lives_26 (by decide) [1, 2, 3, 4, 0] rfl ?_
    refine ev_lload_n dX7_lives_28 2 rfl ?_
    refine ev_iload_n dX7_lives_29 1 rfl ?_
    refine ev_iload dX7_lives_30 3 rfl ?_
    refine e2_callS (w := .int (bi (bitB x1 x4))) (μ1 := μ) (as := [.int x1, .int x4]) (st := [.long x2]) ok_X7_isIn sv_X7_isIn ml_7_220 dX7_lives_32 rfl rfl (Nat.le_of_ble_eq_true rfl) (Nat.le_of_ble_eq_true rfl) (by decide) (ct_X7_isIn (x1) (x4) μ) ?_
    refine ev_ifeq_bi (tgt := 46) dX7_lives_35 rfl (fun c8 => ?_) (fun c8 => ?_)
    · have h9 := h7.1 c8
      refine ev_iload dX7_lives_46 4 rfl ?_
      refine ev_i2l dX7_lives_48 ?_
      refine ev_lmul dX7_lives_49 ?_
      refine ev_ldc2 dX7_lives_50 co_7_327 ?_
      refine ev_ldiv dX7_lives_53 (by decide) ?_
      refine ev_lstore_n (lv' := [(0, .ref 10), (1, .int x1), (2, .long ((x2 * (Int32.toInt64 y6)) / (100 : Int64))), (4, .int x4), (5, .int y6)]) dX7_lives_54 (by decide) [1, 2, 0, 3, 4] rfl ?_
      refine ev_iinc (v := (x4 + 1)) (lv' := [(0, .ref 10), (1, .int x1), (2, .long ((x2 * (Int32.toInt64 y6)) / (100 : Int64))), (4, .int (x4 + 1)), (5, .int y6)]) dX7_lives_55 3 rfl rfl (by decide) [1, 2, 3, 0, 4] rfl ?_
      refine ev_goto (tgt := 7) dX7_lives_58 rfl ?_
      refine EvW.less [0, 1, 2, 3] (lv' := [(0, .ref 10), (1, .int x1), (2, .long ((x2 * (Int32.toInt64 y6)) / (100 : Int64))), (4, .int (x4 + 1))]) rfl ?_
      exact h9
    · have h10 := h7.2 c8
      refine ev_bipush (v := 100) dX7_lives_38 rfl ?_
      refine ev_iload dX7_lives_40 4 rfl ?_
      refine ev_isub dX7_lives_42 ?_
      refine ev_goto (tgt := 48) dX7_lives_43 rfl ?_
      refine ev_i2l dX7_lives_48 ?_
      refine ev_lmul dX7_lives_49 ?_
      refine ev_ldc2 dX7_lives_50 co_7_327 ?_
      refine ev_ldiv dX7_lives_53 (by decide) ?_
      refine ev_lstore_n (lv' := [(0, .ref 10), (1, .int x1), (2, .long ((x2 * (Int32.toInt64 (100 - y6))) / (100 : Int64))), (4, .int x4), (5, .int y6)]) dX7_lives_54 (by decide) [1, 2, 0, 3, 4] rfl ?_
      refine ev_iinc (v := (x4 + 1)) (lv' := [(0, .ref 10), (1, .int x1), (2, .long ((x2 * (Int32.toInt64 (100 - y6))) / (100 : Int64))), (4, .int (x4 + 1)), (5, .int y6)]) dX7_lives_55 3 rfl rfl (by decide) [1, 2, 3, 0, 4] rfl ?_
      refine ev_goto (tgt := 7) dX7_lives_58 rfl ?_
      refine EvW.less [0, 1, 2, 3] (lv' := [(0, .ref 10), (1, .int x1), (2, .long ((x2 * (Int32.toInt64 (100 - y6))) / (100 : Int64))), (4, .int (x4 + 1))]) rfl ?_
      exact h10
theorem sg_X7_livingBy_0 {G : GW} {K : Option Value → Mem → Prop} {μ : Mem} {x1 : Int32}  (h : Ev2 G mX7_livingBy 1 10 [(0, .ref 10), (2, .int 0), (3, .long ((Int32.toInt64 x1) + (1 : Int64))), (5, .int 0)] [] μ K) : Ev2 G mX7_livingBy 1 0 [(0, .ref 10), (1, .int x1)] [] μ K := by
  refine ev_iconst (v := 0) dX7_livingBy_0 rfl ?_
  refine ev_istore_n (lv' := [(0, .ref 10), (1, .int x1), (2, .int 0)]) dX7_livingBy_1 (by decide) [1, 2, 0] rfl ?_
  refine ev_iload_n dX7_livingBy_2 1 rfl ?_
  refine ev_i2l dX7_livingBy_3 ?_
  refine ev_lconst (v := (1 : Int64)) dX7_livingBy_4 rfl ?_
  refine ev_ladd dX7_livingBy_5 ?_
  refine ev_lstore_n (lv' := [(0, .ref 10), (1, .int x1), (2, .int 0), (3, .long ((Int32.toInt64 x1) + (1 : Int64)))]) dX7_livingBy_6 (by decide) [1, 2, 3, 0] rfl ?_
  refine ev_iconst (v := 0) dX7_livingBy_7 rfl ?_
  refine ev_istore (lv' := [(0, .ref 10), (1, .int x1), (2, .int 0), (3, .long ((Int32.toInt64 x1) + (1 : Int64))), (5, .int 0)]) dX7_livingBy_8 (by decide) [1, 2, 3, 4, 0] rfl ?_
  refine EvW.less [0, 2, 3, 4] (lv' := [(0, .ref 10), (2, .int 0), (3, .long ((Int32.toInt64 x1) + (1 : Int64))), (5, .int 0)]) rfl ?_
  exact h
theorem sg_X7_livingBy_10 {G : GW} {K : Option Value → Mem → Prop} {μ : Mem} {x2 x5 : Int32} {x3 : Int64}  (h : (((μ 10 9) ≤ x5) → K (some (.int x2)) μ) ∧ ((¬ ((μ 10 9) ≤ x5)) → (vp_in x5 7) ∧ (((lg_cmp (((x3 * (48271 : Int64)) - (x3 * (48271 : Int64)) / (2147483647 : Int64) * (2147483647 : Int64)) - ((x3 * (48271 : Int64)) - (x3 * (48271 : Int64)) / (2147483647 : Int64) * (2147483647 : Int64)) / (100 : Int64) * (100 : Int64)) (Int32.toInt64 (μ (43 + x5.toNatClampNeg) 8))) < 0) → Ev2 G mX7_livingBy 1 10 [(0, .ref 10), (2, .int x2), (3, .long ((x3 * (48271 : Int64)) - (x3 * (48271 : Int64)) / (2147483647 : Int64) * (2147483647 : Int64))), (5, .int (x5 + 1))] [] μ K) ∧ ((¬ ((lg_cmp (((x3 * (48271 : Int64)) - (x3 * (48271 : Int64)) / (2147483647 : Int64) * (2147483647 : Int64)) - ((x3 * (48271 : Int64)) - (x3 * (48271 : Int64)) / (2147483647 : Int64) * (2147483647 : Int64)) / (100 : Int64) * (100 : Int64)) (Int32.toInt64 (μ (43 + x5.toNatClampNeg) 8))) < 0)) → ∀ y9 : Int32, y9 = (x2 ||| (1 <<< (x5 &&& 31))) → Ev2 G mX7_livingBy 1 10 [(0, .ref 10), (2, .int y9), (3, .long ((x3 * (48271 : Int64)) - (x3 * (48271 : Int64)) / (2147483647 : Int64) * (2147483647 : Int64))), (5, .int (x5 + 1))] [] μ K))) : Ev2 G mX7_livingBy 1 10 [(0, .ref 10), (2, .int x2), (3, .long x3), (5, .int x5)] [] μ K := by
  refine ev_iload dX7_livingBy_10 3 rfl ?_
  refine ev_aload_n dX7_livingBy_12 0 rfl (by decide) ?_
  refine ev_getI' (v := (μ 10 9)) fl_7_60 rfl kd_10 rfl dX7_livingBy_13 ?_
  refine ev_icmp_ge (tgt := 62) dX7_livingBy_16 rfl (fun c1 => ?_) (fun c1 => ?_)
  · have h2 := h.1 c1
    refine ev_iload_n dX7_livingBy_62 1 rfl ?_
    exact ev_ireturn dX7_livingBy_63 rfl True.intro rfl rfl ⟨rfl, h2⟩
  · have h3 := h.2 c1
    refine ev_lload_n dX7_livingBy_19 2 rfl ?_
    refine ev_ldc2 dX7_livingBy_20 co_7_329 ?_
    refine ev_lmul dX7_livingBy_23 ?_
    refine ev_ldc2 dX7_livingBy_24 co_7_331 ?_
    refine ev_lrem dX7_livingBy_27 (by decide) ?_
    refine ev_lstore_n (lv' := [(0, .ref 10), (2, .int x2), (3, .long ((x3 * (48271 : Int64)) - (x3 * (48271 : Int64)) / (2147483647 : Int64) * (2147483647 : Int64))), (5, .int x5)]) dX7_livingBy_28 (by decide) [1, 2, 0, 3] rfl ?_
    refine ev_lload_n dX7_livingBy_29 2 rfl ?_
    refine ev_ldc2 dX7_livingBy_30 co_7_327 ?_
    refine ev_lrem dX7_livingBy_33 (by decide) ?_
    refine ev_aload_n dX7_livingBy_34 0 rfl (by decide) ?_
    refine ev_getR' fl_7_16 rfl kd_10 rf_10_1 dX7_livingBy_35 ?_
    refine ev_iload dX7_livingBy_38 3 rfl ?_
    have p4 := h3.1
    have h5 := h3.2
    refine ev_aaload' (k := 5) kd_19 (by omega) ln_19 p4 (raH p4) dX7_livingBy_40 ?_
    refine ev_getI' (v := (μ (43 + x5.toNatClampNeg) 8)) fl_7_137 rfl (kdHo (isH p4)) rfl dX7_livingBy_41 ?_
    refine ev_i2l dX7_livingBy_44 ?_
    refine ev_lcmp dX7_livingBy_45 ?_
    refine ev_if_lt (tgt := 56) dX7_livingBy_46 rfl (fun c6 => ?_) (fun c6 => ?_)
    · have h7 := h5.1 c6
      refine ev_iinc (v := (x5 + 1)) (lv' := [(0, .ref 10), (2, .int x2), (3, .long ((x3 * (48271 : Int64)) - (x3 * (48271 : Int64)) / (2147483647 : Int64) * (2147483647 : Int64))), (5, .int (x5 + 1))]) dX7_livingBy_56 3 rfl rfl (by decide) [1, 2, 3, 0] rfl ?_
      refine ev_goto (tgt := 10) dX7_livingBy_59 rfl ?_
      exact h7
    · have h8 := h5.2 c6
      refine ev_iload_n dX7_livingBy_49 1 rfl ?_
      refine ev_iconst (v := 1) dX7_livingBy_50 rfl ?_
      refine ev_iload dX7_livingBy_51 3 rfl ?_
      refine ev_ishl dX7_livingBy_53 ?_
      refine ev_ior dX7_livingBy_54 ?_
      refine ev_top (fun y9 ey9 => ?_)
      have h10 := h8 y9 ey9
      refine ev_istore_n (lv' := [(0, .ref 10), (2, .int y9), (3, .long ((x3 * (48271 : Int64)) - (x3 * (48271 : Int64)) / (2147483647 : Int64) * (2147483647 : Int64))), (5, .int x5)]) dX7_livingBy_55 (by decide) [1, 0, 2, 3] rfl ?_
      refine ev_iinc (v := (x5 + 1)) (lv' := [(0, .ref 10), (2, .int y9), (3, .long ((x3 * (48271 : Int64)) - (x3 * (48271 : Int64)) / (2147483647 : Int64) * (2147483647 : Int64))), (5, .int (x5 + 1))]) dX7_livingBy_56 3 rfl rfl (by decide) [1, 2, 3, 0] rfl ?_
      refine ev_goto (tgt := 10) dX7_livingBy_59 rfl ?_
      exact h10
theorem sg_X7_greatestCommon_0 {G : GW} {K : Option Value → Mem → Prop} {μ : Mem} {x0 x1 : Int32}  (h : Ev2 G mX7_greatestCommon 2 7 [(2, .int x0), (3, .int x1), (4, .int 0)] [] μ K) : Ev2 G mX7_greatestCommon 2 0 [(0, .int x0), (1, .int x1)] [] μ K := by
  refine ev_iload_n dX7_greatestCommon_0 0 rfl ?_
  refine ev_istore_n (lv' := [(0, .int x0), (1, .int x1), (2, .int x0)]) dX7_greatestCommon_1 (by decide) [1, 2, 0] rfl ?_
  refine ev_iload_n dX7_greatestCommon_2 1 rfl ?_
  refine ev_istore_n (lv' := [(0, .int x0), (1, .int x1), (2, .int x0), (3, .int x1)]) dX7_greatestCommon_3 (by decide) [1, 2, 3, 0] rfl ?_
  refine ev_iconst (v := 0) dX7_greatestCommon_4 rfl ?_
  refine ev_istore (lv' := [(0, .int x0), (1, .int x1), (2, .int x0), (3, .int x1), (4, .int 0)]) dX7_greatestCommon_5 (by decide) [1, 2, 3, 4, 0] rfl ?_
  refine EvW.less [2, 3, 4] (lv' := [(2, .int x0), (3, .int x1), (4, .int 0)]) rfl ?_
  exact h
theorem sg_X7_greatestCommon_7 {G : GW} {K : Option Value → Mem → Prop} {μ : Mem} {x2 x3 x4 : Int32}  (h : ((64 ≤ x4) → K (some (.int (imax 1 x2))) μ) ∧ ((¬ (64 ≤ x4)) → ((x3 = 0) → K (some (.int (imax 1 x2))) μ) ∧ ((¬ (x3 = 0)) → (¬ x3 = 0) ∧ Ev2 G mX7_greatestCommon 2 7 [(2, .int x3), (3, .int (x2 - x2 / x3 * x3)), (4, .int (x4 + 1))] [] μ K))) : Ev2 G mX7_greatestCommon 2 7 [(2, .int x2), (3, .int x3), (4, .int x4)] [] μ K := by
  refine ev_iload dX7_greatestCommon_7 2 rfl ?_
  refine ev_bipush (v := 64) dX7_greatestCommon_9 rfl ?_
  refine ev_icmp_ge (tgt := 34) dX7_greatestCommon_11 rfl (fun c1 => ?_) (fun c1 => ?_)
  · have h2 := h.1 c1
    refine ev_iconst (v := 1) dX7_greatestCommon_34 rfl ?_
    refine ev_iload_n dX7_greatestCommon_35 0 rfl ?_
    refine ev_max ml_7_202 dX7_greatestCommon_36 (Nat.le_of_ble_eq_true rfl) (by decide) ⟨Nat.le_refl _, Nat.le_refl _⟩ ?_
    exact ev_ireturn dX7_greatestCommon_39 rfl True.intro rfl rfl ⟨rfl, h2⟩
  · have h3 := h.2 c1
    refine ev_iload_n dX7_greatestCommon_14 1 rfl ?_
    refine ev_if_eq (tgt := 34) dX7_greatestCommon_15 rfl (fun c4 => ?_) (fun c4 => ?_)
    · have h5 := h3.1 c4
      refine ev_iconst (v := 1) dX7_greatestCommon_34 rfl ?_
      refine ev_iload_n dX7_greatestCommon_35 0 rfl ?_
      refine ev_max ml_7_202 dX7_greatestCommon_36 (Nat.le_of_ble_eq_true rfl) (by decide) ⟨Nat.le_refl _, Nat.le_refl _⟩ ?_
      exact ev_ireturn dX7_greatestCommon_39 rfl True.intro rfl rfl ⟨rfl, h5⟩
    · have h6 := h3.2 c4
      refine ev_iload_n dX7_greatestCommon_18 0 rfl ?_
      refine ev_iload_n dX7_greatestCommon_19 1 rfl ?_
      have p7 := h6.1
      have h8 := h6.2
      refine ev_irem dX7_greatestCommon_20 p7 ?_
      refine ev_istore (lv' := [(2, .int x2), (3, .int x3), (4, .int x4), (5, .int (x2 - x2 / x3 * x3))]) dX7_greatestCommon_21 (by decide) [1, 2, 3, 0] rfl ?_
      refine ev_iload_n dX7_greatestCommon_23 1 rfl ?_
      refine ev_istore_n (lv' := [(2, .int x3), (3, .int x3), (4, .int x4), (5, .int (x2 - x2 / x3 * x3))]) dX7_greatestCommon_24 (by decide) [0, 1, 2, 3] rfl ?_
      refine ev_iload dX7_greatestCommon_25 3 rfl ?_
      refine ev_istore_n (lv' := [(2, .int x3), (3, .int (x2 - x2 / x3 * x3)), (4, .int x4), (5, .int (x2 - x2 / x3 * x3))]) dX7_greatestCommon_27 (by decide) [1, 0, 2, 3] rfl ?_
      refine ev_iinc (v := (x4 + 1)) (lv' := [(2, .int x3), (3, .int (x2 - x2 / x3 * x3)), (4, .int (x4 + 1)), (5, .int (x2 - x2 / x3 * x3))]) dX7_greatestCommon_28 2 rfl rfl (by decide) [1, 2, 0, 3] rfl ?_
      refine ev_goto (tgt := 7) dX7_greatestCommon_31 rfl ?_
      refine EvW.less [0, 1, 2] (lv' := [(2, .int x3), (3, .int (x2 - x2 / x3 * x3)), (4, .int (x4 + 1))]) rfl ?_
      exact h8
