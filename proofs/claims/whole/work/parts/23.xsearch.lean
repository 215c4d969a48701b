/-! ===== the class: setting out ===== -/
def goX (μ : Mem) (h p : Nat) : Int32 := goesF (μ (43 + h) 0) (μ (43 + h) 1) (μ (43 + h) 2) (μ (43 + h) 4) (nI p)
def tmX (μ : Mem) (h : Nat) (t : Int32) : Int32 := imax t (μ (43 + h) 5) + outF (μ (43 + h) 0) (μ (43 + h) 4) (μ (43 + h) 6)
def wX (μ : Mem) (p q : Nat) : Int32 := if p < 7 then μ (12 + p) q else 0
def arriveM (μ : Mem) (q : Nat) (t w f : Int32) : Mem := if t < μ 27 q then mset (mset (mset μ 27 q t) 28 q w) 29 q f else μ
theorem sg_X3_arrive_0 {G : GW} {K : Option Value → Mem → Prop} {μ : Mem} {x1 x2 x3 x4 : Int32}  (h : (vp_in x1 7) ∧ (((μ 27 x1.toNatClampNeg) ≤ x2) → K none μ) ∧ ((¬ ((μ 27 x1.toNatClampNeg) ≤ x2)) → (vp_in x1 7) ∧ (vp_in x1 7) ∧ (vp_in x1 7) ∧ K none (mset (mset (mset μ 27 x1.toNatClampNeg x2) 28 x1.toNatClampNeg x3) 29 x1.toNatClampNeg x4))) : Ev2 G mX3_arrive 1 0 [(0, .ref 26), (1, .int x1), (2, .int x2), (3, .int x3), (4, .int x4)] [] μ K := by
  refine ev_iload_n dX3_arrive_0 2 rfl ?_
  refine ev_aload_n dX3_arrive_1 0 rfl (by decide) ?_
  refine ev_getR' fl_3_9 rfl kd_26 rf_26_0 dX3_arrive_2 ?_
  refine ev_iload_n dX3_arrive_5 1 rfl ?_
  have p1 := h.1
  have h2 := h.2
  refine ev_iaload' (v := (μ 27 x1.toNatClampNeg)) kd_27 ln_27 p1 rfl dX3_arrive_6 ?_
  refine ev_icmp_ge (tgt := 32) dX3_arrive_7 rfl (fun c3 => ?_) (fun c3 => ?_)
  · have h4 := h2.1 c3
    exact ev_return dX3_arrive_32 rfl rfl rfl ⟨rfl, h4⟩
  · have h5 := h2.2 c3
    refine ev_aload_n dX3_arrive_10 0 rfl (by decide) ?_
    refine ev_getR' fl_3_9 rfl kd_26 rf_26_0 dX3_arrive_11 ?_
    refine ev_iload_n dX3_arrive_14 1 rfl ?_
    refine ev_iload_n dX3_arrive_15 2 rfl ?_
    have p6 := h5.1
    have h7 := h5.2
    refine ev_iastore' (j := x1.toNatClampNeg) kd_27 ln_27 p6 rfl dX3_arrive_16 ?_
    refine ev_aload_n dX3_arrive_17 0 rfl (by decide) ?_
    refine ev_getR' fl_3_15 rfl kd_26 rf_26_1 dX3_arrive_18 ?_
    refine ev_iload_n dX3_arrive_21 1 rfl ?_
    refine ev_iload_n dX3_arrive_22 3 rfl ?_
    have p8 := h7.1
    have h9 := h7.2
    refine ev_iastore' (j := x1.toNatClampNeg) kd_28 ln_28 p8 rfl dX3_arrive_23 ?_
    refine ev_aload_n dX3_arrive_24 0 rfl (by decide) ?_
    refine ev_getR' fl_3_18 rfl kd_26 rf_26_2 dX3_arrive_25 ?_
    refine ev_iload_n dX3_arrive_28 1 rfl ?_
    refine ev_iload dX3_arrive_29 4 rfl ?_
    have p10 := h9.1
    have h11 := h9.2
    refine ev_iastore' (j := x1.toNatClampNeg) kd_29 ln_29 p10 rfl dX3_arrive_31 ?_
    exact ev_return dX3_arrive_32 rfl rfl rfl ⟨rfl, h11⟩
theorem ct_X3_arrive {G : GW} (x1 x2 x3 x4 : Int32) (μ : Mem) (hp : vp_in x1 7) : Ev2 G mX3_arrive 1 0 [(0, .ref 26), (1, .int x1), (2, .int x2), (3, .int x3), (4, .int x4)] [] μ (fun v μ' => v = none ∧ μ' = arriveM μ x1.toNatClampNeg x2 x3 x4) := by
  refine sg_X3_arrive_0 ?_
  unfold arriveM
  simp only [hp, true_and]
  refine ⟨fun c => ?_, fun c => ?_⟩
  · rw [if_neg (by rw [Int32.not_lt]; exact c)]
  · rw [if_pos (by rw [Int32.not_le] at c; exact c)]
theorem arrive_put {μ σ : Mem} {q : Nat} {t w f : Int32} : arriveM (put4 27 μ σ) q t w f = put4 27 μ (comeS σ q t w f) := come_put4
theorem sg_X3_soonestNotLeft_0 {G : GW} {K : Option Value → Mem → Prop} {μ : Mem}   (h : Ev2 G mX3_soonestNotLeft 1 4 [(0, .ref 26), (1, .int (-1)), (2, .int 0)] [] μ K) : Ev2 G mX3_soonestNotLeft 1 0 [(0, .ref 26)] [] μ K := by
  refine ev_iconst (v := (-1)) dX3_soonestNotLeft_0 rfl ?_
  refine ev_istore_n (lv' := [(0, .ref 26), (1, .int (-1))]) dX3_soonestNotLeft_1 (by decide) [1, 0] rfl ?_
  refine ev_iconst (v := 0) dX3_soonestNotLeft_2 rfl ?_
  refine ev_istore_n (lv' := [(0, .ref 26), (1, .int (-1)), (2, .int 0)]) dX3_soonestNotLeft_3 (by decide) [1, 2, 0] rfl ?_
  exact h
theorem sg_X3_soonestNotLeft_4 {G : GW} {K : Option Value → Mem → Prop} {μ : Mem} {x1 x2 : Int32}  (h : ((7 ≤ x2) → K (some (.int x1)) μ) ∧ ((¬ (7 ≤ x2)) → (vp_in x2 7) ∧ ((¬ (μ 30 x2.toNatClampNeg) = 0) → Ev2 G mX3_soonestNotLeft 1 4 [(0, .ref 26), (1, .int x1), (2, .int (x2 + 1))] [] μ K) ∧ (((μ 30 x2.toNatClampNeg) = 0) → ((x1 = (-1)) → Ev2 G mX3_soonestNotLeft 1 4 [(0, .ref 26), (1, .int x2), (2, .int (x2 + 1))] [] μ K) ∧ ((¬ (x1 = (-1))) → (vp_in x2 7) ∧ (vp_in x1 7) ∧ (((μ 27 x1.toNatClampNeg) ≤ (μ 27 x2.toNatClampNeg)) → Ev2 G mX3_soonestNotLeft 1 4 [(0, .ref 26), (1, .int x1), (2, .int (x2 + 1))] [] μ K) ∧ ((¬ ((μ 27 x1.toNatClampNeg) ≤ (μ 27 x2.toNatClampNeg))) → Ev2 G mX3_soonestNotLeft 1 4 [(0, .ref 26), (1, .int x2), (2, .int (x2 + 1))] [] μ K))))) : Ev2 G mX3_soonestNotLeft 1 4 [(0, .ref 26), (1, .int x1), (2, .int x2)] [] μ K := by
  refine ev_iload_n dX3_soonestNotLeft_4 2 rfl ?_
  refine ev_bipush (v := 7) dX3_soonestNotLeft_5 rfl ?_
  refine ev_icmp_ge (tgt := 47) dX3_soonestNotLeft_7 rfl (fun c1 => ?_) (fun c1 => ?_)
  · have h2 := h.1 c1
    refine ev_iload_n dX3_soonestNotLeft_47 1 rfl ?_
    exact ev_ireturn dX3_soonestNotLeft_48 rfl True.intro rfl rfl ⟨rfl, h2⟩
  · have h3 := h.2 c1
    refine ev_aload_n dX3_soonestNotLeft_10 0 rfl (by decide) ?_
    refine ev_getR' fl_3_21 rfl kd_26 rf_26_3 dX3_soonestNotLeft_11 ?_
    refine ev_iload_n dX3_soonestNotLeft_14 2 rfl ?_
    have p4 := h3.1
    have h5 := h3.2
    refine ev_zaload' (v := (μ 30 x2.toNatClampNeg)) kd_30 ln_30 p4 rfl dX3_soonestNotLeft_15 ?_
    refine ev_if_ne (tgt := 41) dX3_soonestNotLeft_16 rfl (fun c6 => ?_) (fun c6 => ?_)
    · have h7 := h5.1 c6
      refine ev_iinc (v := (x2 + 1)) (lv' := [(0, .ref 26), (1, .int x1), (2, .int (x2 + 1))]) dX3_soonestNotLeft_41 2 rfl rfl (by decide) [1, 2, 0] rfl ?_
      refine ev_goto (tgt := 4) dX3_soonestNotLeft_44 rfl ?_
      exact h7
    · have h8 := h5.2 c6
      refine ev_iload_n dX3_soonestNotLeft_19 1 rfl ?_
      refine ev_iconst (v := (-1)) dX3_soonestNotLeft_20 rfl ?_
      refine ev_icmp_eq (tgt := 39) dX3_soonestNotLeft_21 rfl (fun c9 => ?_) (fun c9 => ?_)
      · have h10 := h8.1 c9
        refine ev_iload_n dX3_soonestNotLeft_39 2 rfl ?_
        refine ev_istore_n (lv' := [(0, .ref 26), (1, .int x2), (2, .int x2)]) dX3_soonestNotLeft_40 (by decide) [1, 0, 2] rfl ?_
        refine ev_iinc (v := (x2 + 1)) (lv' := [(0, .ref 26), (1, .int x2), (2, .int (x2 + 1))]) dX3_soonestNotLeft_41 2 rfl rfl (by decide) [1, 2, 0] rfl ?_
        refine ev_goto (tgt := 4) dX3_soonestNotLeft_44 rfl ?_
        exact h10
      · have h11 := h8.2 c9
        refine ev_aload_n dX3_soonestNotLeft_24 0 rfl (by decide) ?_
        refine ev_getR' fl_3_9 rfl kd_26 rf_26_0 dX3_soonestNotLeft_25 ?_
        refine ev_iload_n dX3_soonestNotLeft_28 2 rfl ?_
        have p12 := h11.1
        have h13 := h11.2
        refine ev_iaload' (v := (μ 27 x2.toNatClampNeg)) kd_27 ln_27 p12 rfl dX3_soonestNotLeft_29 ?_
        refine ev_aload_n dX3_soonestNotLeft_30 0 rfl (by decide) ?_
        refine ev_getR' fl_3_9 rfl kd_26 rf_26_0 dX3_soonestNotLeft_31 ?_
        refine ev_iload_n dX3_soonestNotLeft_34 1 rfl ?_
        have p14 := h13.1
        have h15 := h13.2
        refine ev_iaload' (v := (μ 27 x1.toNatClampNeg)) kd_27 ln_27 p14 rfl dX3_soonestNotLeft_35 ?_
        refine ev_icmp_ge (tgt := 41) dX3_soonestNotLeft_36 rfl (fun c16 => ?_) (fun c16 => ?_)
        · have h17 := h15.1 c16
          refine ev_iinc (v := (x2 + 1)) (lv' := [(0, .ref 26), (1, .int x1), (2, .int (x2 + 1))]) dX3_soonestNotLeft_41 2 rfl rfl (by decide) [1, 2, 0] rfl ?_
          refine ev_goto (tgt := 4) dX3_soonestNotLeft_44 rfl ?_
          exact h17
        · have h18 := h15.2 c16
          refine ev_iload_n dX3_soonestNotLeft_39 2 rfl ?_
          refine ev_istore_n (lv' := [(0, .ref 26), (1, .int x2), (2, .int x2)]) dX3_soonestNotLeft_40 (by decide) [1, 0, 2] rfl ?_
          refine ev_iinc (v := (x2 + 1)) (lv' := [(0, .ref 26), (1, .int x2), (2, .int (x2 + 1))]) dX3_soonestNotLeft_41 2 rfl rfl (by decide) [1, 2, 0] rfl ?_
          refine ev_goto (tgt := 4) dX3_soonestNotLeft_44 rfl ?_
          exact h18
theorem lp_X3_soonest {G : GW} (μ : Mem) : ∀ j i, i + j = 7 → Ev2 G mX3_soonestNotLeft 1 4 [(0, .ref 26), (1, .int (pickS (get4 27 μ) i)), (2, .int (nI i))] [] μ (fun v μ' => v = some (.int (pickS (get4 27 μ) 7)) ∧ μ' = μ) := by
  intro j
  induction j with
  | zero =>
    intro i hi
    obtain rfl : i = 7 := by omega
    exact sg_X3_soonestNotLeft_4 ⟨fun _ => ⟨rfl, rfl⟩, fun c => absurd (nI_le (a := 7) (Nat.le_refl 7) (by omega)) c⟩
  | succ j ih =>
    intro i hi
    have h := ih (i + 1) (by omega)
    have e3 : get4 27 μ 3 i = μ 30 i := rfl
    have e0 : ∀ k, get4 27 μ 0 k = μ 27 k := fun _ => rfl
    have ep : pickS (get4 27 μ) (i + 1) = if μ 30 i = 0 ∧ (pickS (get4 27 μ) i = -1 ∨ μ 27 i < μ 27 (pickS (get4 27 μ) i).toNatClampNeg) then nI i else pickS (get4 27 μ) i := rfl
    rw [ep, ← nI_1] at h
    refine sg_X3_soonestNotLeft_4 ⟨fun c => absurd c (nI_ge (b := 7) (by omega) (by omega)), fun _ => ⟨vp_nI (by omega) (by omega), ?_⟩⟩
    rw [ix_nI (by omega)]
    refine ⟨fun c => ?_, fun c => ⟨fun c2 => ?_, fun c2 => ⟨vp_nI (by omega) (by omega), ?_, fun c3 => ?_, fun c3 => ?_⟩⟩⟩
    · rw [if_neg (fun q => c q.1)] at h
      exact h
    · rw [if_pos ⟨c, Or.inl c2⟩] at h
      exact h
    · rcases pickS_range (σ := get4 27 μ) i with q | ⟨p, hp, q, -⟩
      · exact absurd q c2
      · rw [q]
        exact vp_nI (by omega) (by omega)
    · rw [if_neg (fun q => q.2.elim c2 (fun q => absurd q (by rw [Int32.not_lt]; exact c3)))] at h
      exact h
    · rw [if_pos ⟨c, Or.inr (by rw [Int32.not_le] at c3; exact c3)⟩] at h
      exact h
theorem ct_X3_soonestNotLeft {G : GW} (μ : Mem) : Ev2 G mX3_soonestNotLeft 1 0 [(0, .ref 26)] [] μ (fun v μ' => v = some (.int (pickS (get4 27 μ) 7)) ∧ μ' = μ) := sg_X3_soonestNotLeft_0 (lp_X3_soonest μ 7 0 rfl)
theorem sg_X3_leaveByHorse_0 {G : GW} {K : Option Value → Mem → Prop} {μ : Mem} {x2 x3 : Int32}  (h : Ev2 G mX3_leaveByHorse 4 3 [(0, .ref 26), (1, .ref 19), (2, .int x2), (3, .int x3), (4, .int 0)] [] μ K) : Ev2 G mX3_leaveByHorse 4 0 [(0, .ref 26), (1, .ref 19), (2, .int x2), (3, .int x3)] [] μ K := by
  refine ev_iconst (v := 0) dX3_leaveByHorse_0 rfl ?_
  refine ev_istore (lv' := [(0, .ref 26), (1, .ref 19), (2, .int x2), (3, .int x3), (4, .int 0)]) dX3_leaveByHorse_1 (by decide) [1, 2, 3, 4, 0] rfl ?_
  exact h
theorem sg_X3_leaveByHorse_3 {G : GW} {K : Option Value → Mem → Prop} {μ : Mem} {x2 x3 x4 : Int32}  (h : ((7 ≤ x4) → K none μ) ∧ ((¬ (7 ≤ x4)) → (((bitB x2 x4) = false) → Ev2 G mX3_leaveByHorse 4 3 [(0, .ref 26), (1, .ref 19), (2, .int x2), (3, .int x3), (4, .int (x4 + 1))] [] μ K) ∧ (((bitB x2 x4) = true) → (vp_in x4 7) ∧ ∀ y9 : Int32, y9 = (goesF (μ (43 + x4.toNatClampNeg) 0) (μ (43 + x4.toNatClampNeg) 1) (μ (43 + x4.toNatClampNeg) 2) (μ (43 + x4.toNatClampNeg) 4) x3) → ((y9 = (-1)) → Ev2 G mX3_leaveByHorse 4 3 [(0, .ref 26), (1, .ref 19), (2, .int x2), (3, .int x3), (4, .int (x4 + 1))] [] μ K) ∧ ((¬ (y9 = (-1))) → ((y9 = x3) → Ev2 G mX3_leaveByHorse 4 3 [(0, .ref 26), (1, .ref 19), (2, .int x2), (3, .int x3), (4, .int (x4 + 1))] [] μ K) ∧ ((¬ (y9 = x3)) → (vp_in x4 7) ∧ (vp_in x3 7) ∧ (vp_in y9 7) ∧ Ev2 G mX3_leaveByHorse 4 3 [(0, .ref 26), (1, .ref 19), (2, .int x2), (3, .int x3), (4, .int (x4 + 1))] [] (arriveM μ y9.toNatClampNeg (imax (μ 27 x3.toNatClampNeg) (μ (43 + x4.toNatClampNeg) 5) + outF (μ (43 + x4.toNatClampNeg) 0) (μ (43 + x4.toNatClampNeg) 4) (μ (43 + x4.toNatClampNeg) 6)) x4 x3) K))))) : Ev2 G mX3_leaveByHorse 4 3 [(0, .ref 26), (1, .ref 19), (2, .int x2), (3, .int x3), (4, .int x4)] [] μ K := by
  refine ev_iload dX3_leaveByHorse_3 4 rfl ?_
  refine ev_bipush (v := 7) dX3_leaveByHorse_5 rfl ?_
  refine ev_icmp_ge (tgt := 69) dX3_leaveByHorse_7 rfl (fun c1 => ?_) (fun c1 => ?_)
  · have h2 := h.1 c1
    exact ev_return dX3_leaveByHorse_69 rfl rfl rfl ⟨rfl, h2⟩
  · have h3 := h.2 c1
    refine ev_iload_n dX3_leaveByHorse_10 2 rfl ?_
    refine ev_iload dX3_leaveByHorse_11 4 rfl ?_
    refine e2_callSN (w := .int (bi (bitB x2 x4))) (μ1 := μ) (as := [.int x2, .int x4]) (st := []) ok_X7_isIn sv_X7_isIn nw_3_51 dX3_leaveByHorse_13 rfl rfl (Nat.le_of_ble_eq_true rfl) (Nat.le_of_ble_eq_true rfl) (by decide) (ct_X7_isIn (x2) (x4) μ) ?_
    refine ev_ifeq_bi (tgt := 63) dX3_leaveByHorse_16 rfl (fun c4 => ?_) (fun c4 => ?_)
    · have h5 := h3.1 c4
      refine ev_iinc (v := (x4 + 1)) (lv' := [(0, .ref 26), (1, .ref 19), (2, .int x2), (3, .int x3), (4, .int (x4 + 1))]) dX3_leaveByHorse_63 4 rfl rfl (by decide) [1, 2, 3, 4, 0] rfl ?_
      refine ev_goto (tgt := 3) dX3_leaveByHorse_66 rfl ?_
      exact h5
    · have h6 := h3.2 c4
      refine ev_aload_n dX3_leaveByHorse_19 1 rfl (by decide) ?_
      refine ev_iload dX3_leaveByHorse_20 4 rfl ?_
      have p7 := h6.1
      have h8 := h6.2
      refine ev_aaload' (k := 5) kd_19 (by omega) ln_19 p7 (raH p7) dX3_leaveByHorse_22 ?_
      refine ev_iload_n dX3_leaveByHorse_23 3 rfl ?_
      refine e2_callV (w := .int (goesF (μ (43 + x4.toNatClampNeg) 0) (μ (43 + x4.toNatClampNeg) 1) (μ (43 + x4.toNatClampNeg) 2) (μ (43 + x4.toNatClampNeg) 4) x3)) (μ1 := μ) (a := (43 + x4.toNatClampNeg)) (as := [.int x3]) (st := []) ok_X0_goesFrom vi_X0_goesFrom ml_3_55 hcl_0 (kdHo (isH p7)) dX3_leaveByHorse_24 rfl rfl (Nat.le_of_ble_eq_true rfl) (Nat.le_of_ble_eq_true rfl) (by decide) (ct_X0_goesFrom (43 + x4.toNatClampNeg) (isH p7) (x3) μ) ?_
      refine ev_top (fun y9 ey9 => ?_)
      have h10 := h8 y9 ey9
      refine ev_istore (lv' := [(0, .ref 26), (1, .ref 19), (2, .int x2), (3, .int x3), (4, .int x4), (5, .int y9)]) dX3_leaveByHorse_27 (by decide) [1, 2, 3, 4, 5, 0] rfl ?_
      refine ev_iload dX3_leaveByHorse_29 5 rfl ?_
      refine ev_iconst (v := (-1)) dX3_leaveByHorse_31 rfl ?_
      refine ev_icmp_eq (tgt := 63) dX3_leaveByHorse_32 rfl (fun c11 => ?_) (fun c11 => ?_)
      · have h12 := h10.1 c11
        refine ev_iinc (v := (x4 + 1)) (lv' := [(0, .ref 26), (1, .ref 19), (2, .int x2), (3, .int x3), (4, .int (x4 + 1)), (5, .int y9)]) dX3_leaveByHorse_63 4 rfl rfl (by decide) [1, 2, 3, 4, 0, 5] rfl ?_
        refine ev_goto (tgt := 3) dX3_leaveByHorse_66 rfl ?_
        refine EvW.less [0, 1, 2, 3, 4] (lv' := [(0, .ref 26), (1, .ref 19), (2, .int x2), (3, .int x3), (4, .int (x4 + 1))]) rfl ?_
        exact h12
      · have h13 := h10.2 c11
        refine ev_iload dX3_leaveByHorse_35 5 rfl ?_
        refine ev_iload_n dX3_leaveByHorse_37 3 rfl ?_
        refine ev_icmp_eq (tgt := 63) dX3_leaveByHorse_38 rfl (fun c14 => ?_) (fun c14 => ?_)
        · have h15 := h13.1 c14
          refine ev_iinc (v := (x4 + 1)) (lv' := [(0, .ref 26), (1, .ref 19), (2, .int x2), (3, .int x3), (4, .int (x4 + 1)), (5, .int y9)]) dX3_leaveByHorse_63 4 rfl rfl (by decide) [1, 2, 3, 4, 0, 5] rfl ?_
          refine ev_goto (tgt := 3) dX3_leaveByHorse_66 rfl ?_
          refine EvW.less [0, 1, 2, 3, 4] (lv' := [(0, .ref 26), (1, .ref 19), (2, .int x2), (3, .int x3), (4, .int (x4 + 1))]) rfl ?_
          exact h15
        · have h16 := h13.2 c14
          refine ev_aload_n dX3_leaveByHorse_41 0 rfl (by decide) ?_
          refine ev_iload dX3_leaveByHorse_42 5 rfl ?_
          refine ev_aload_n dX3_leaveByHorse_44 1 rfl (by decide) ?_
          refine ev_iload dX3_leaveByHorse_45 4 rfl ?_
          have p17 := h16.1
          have h18 := h16.2
          refine ev_aaload' (k := 5) kd_19 (by omega) ln_19 p17 (raH p17) dX3_leaveByHorse_47 ?_
          refine ev_aload_n dX3_leaveByHorse_48 0 rfl (by decide) ?_
          refine ev_getR' fl_3_9 rfl kd_26 rf_26_0 dX3_leaveByHorse_49 ?_
          refine ev_iload_n dX3_leaveByHorse_52 3 rfl ?_
          have p19 := h18.1
          have h20 := h18.2
          refine ev_iaload' (v := (μ 27 x3.toNatClampNeg)) kd_27 ln_27 p19 rfl dX3_leaveByHorse_53 ?_
          refine e2_callV (w := .int (imax (μ 27 x3.toNatClampNeg) (μ (43 + x4.toNatClampNeg) 5) + outF (μ (43 + x4.toNatClampNeg) 0) (μ (43 + x4.toNatClampNeg) 4) (μ (43 + x4.toNatClampNeg) 6))) (μ1 := μ) (a := (43 + x4.toNatClampNeg)) (as := [.int (μ 27 x3.toNatClampNeg)]) (st := [.int y9, .ref 26]) ok_X0_arrives vi_X0_arrives ml_3_61 hcl_0 (kdHo (isH p17)) dX3_leaveByHorse_54 rfl rfl (Nat.le_of_ble_eq_true rfl) (Nat.le_of_ble_eq_true rfl) (by decide) (ct_X0_arrives (43 + x4.toNatClampNeg) (isH p17) ((μ 27 x3.toNatClampNeg)) μ) ?_
          refine ev_iload dX3_leaveByHorse_57 4 rfl ?_
          refine ev_iload_n dX3_leaveByHorse_59 3 rfl ?_
          have p21 := h20.1
          have h22 := h20.2
          refine e2_callVv (μ1 := (arriveM μ y9.toNatClampNeg (imax (μ 27 x3.toNatClampNeg) (μ (43 + x4.toNatClampNeg) 5) + outF (μ (43 + x4.toNatClampNeg) 0) (μ (43 + x4.toNatClampNeg) 4) (μ (43 + x4.toNatClampNeg) 6)) x4 x3)) (a := 26) (as := [.int y9, .int (imax (μ 27 x3.toNatClampNeg) (μ (43 + x4.toNatClampNeg) 5) + outF (μ (43 + x4.toNatClampNeg) 0) (μ (43 + x4.toNatClampNeg) 4) (μ (43 + x4.toNatClampNeg) 6)), .int x4, .int x3]) (st := []) ok_X3_arrive vi_X3_arrive ml_3_64 hcl_3 kd_26 dX3_leaveByHorse_60 rfl rfl (Nat.le_of_ble_eq_true rfl) (Nat.le_of_ble_eq_true rfl) (by decide) (ct_X3_arrive (y9) ((imax (μ 27 x3.toNatClampNeg) (μ (43 + x4.toNatClampNeg) 5) + outF (μ (43 + x4.toNatClampNeg) 0) (μ (43 + x4.toNatClampNeg) 4) (μ (43 + x4.toNatClampNeg) 6))) (x4) (x3) μ p21) ?_
          refine ev_iinc (v := (x4 + 1)) (lv' := [(0, .ref 26), (1, .ref 19), (2, .int x2), (3, .int x3), (4, .int (x4 + 1)), (5, .int y9)]) dX3_leaveByHorse_63 4 rfl rfl (by decide) [1, 2, 3, 4, 0, 5] rfl ?_
          refine ev_goto (tgt := 3) dX3_leaveByHorse_66 rfl ?_
          refine EvW.less [0, 1, 2, 3, 4] (lv' := [(0, .ref 26), (1, .ref 19), (2, .int x2), (3, .int x3), (4, .int (x4 + 1))]) rfl ?_
          exact h22
theorem put4_horse {μ σ : Mem} {h : Nat} : put4 27 μ σ (43 + h) = μ (43 + h) := put4_out (by omega)
theorem lp_X3_leaveByHorse {G : GW} (μ : Mem) (set : Int32) {p : Nat} (hp : p < 7) (hg : goOK (goX μ) set) : ∀ j i, i + j = 7 → Ev2 G mX3_leaveByHorse 4 3 [(0, .ref 26), (1, .ref 19), (2, .int set), (3, .int (nI p)), (4, .int (nI i))] [] (put4 27 μ (lvH (goX μ) (tmX μ) set p i (get4 27 μ))) (fun v μ' => v = none ∧ μ' = put4 27 μ (lvH (goX μ) (tmX μ) set p 7 (get4 27 μ))) := by
  intro j
  induction j with
  | zero =>
    intro i hi
    obtain rfl : i = 7 := by omega
    exact sg_X3_leaveByHorse_3 ⟨fun _ => ⟨rfl, rfl⟩, fun c => absurd (nI_le (a := 7) (Nat.le_refl 7) (by omega)) c⟩
  | succ j ih =>
    intro i hi
    have h := ih (i + 1) (by omega)
    rw [← nI_1] at h
    generalize hσ : lvH (goX μ) (tmX μ) set p i (get4 27 μ) = σ at h ⊢
    have ep : lvH (goX μ) (tmX μ) set p (i + 1) (get4 27 μ) = if bitB set (nI i) = true ∧ ¬ goX μ i p = -1 ∧ ¬ goX μ i p = nI p then comeS σ (goX μ i p).toNatClampNeg (tmX μ i (σ 0 p)) (nI i) (nI p) else σ := by
      rw [← hσ]
      rfl
    rw [ep] at h
    refine sg_X3_leaveByHorse_3 ⟨fun c => absurd c (nI_ge (b := 7) (by omega) (by omega)), fun _ => ⟨fun c => ?_, fun c => ⟨vp_nI (by omega) (by omega), fun y hy => ?_⟩⟩⟩
    · rw [if_neg (fun q => absurd q.1 (by rw [c]; decide))] at h
      exact h
    · rw [ix_nI (by omega), ix_nI (by omega), put4_horse] at *
      have e27 : put4 27 μ σ 27 = σ 0 := put4_in (β := 27) (r := 0) (by omega)
      have hy : y = goX μ i p := hy
      subst hy
      refine ⟨fun c2 => ?_, fun c2 => ⟨fun c3 => ?_, fun c3 => ⟨vp_nI (by omega) (by omega), vp_nI (by omega) (by omega), ?_, ?_⟩⟩⟩
      · rw [if_neg (fun q => q.2.1 c2)] at h
        exact h
      · rw [if_neg (fun q => q.2.2 c3)] at h
        exact h
      · rcases hg i (by omega) c p hp with q | ⟨q, hq, e⟩
        · exact absurd q c2
        · rw [e]
          exact vp_nI hq (by omega)
      · rw [if_pos ⟨c, c2, c3⟩] at h
        rw [e27, arrive_put]
        exact h
theorem ct_X3_leaveByHorse {G : GW} (x2 x3 : Int32) (μ : Mem) (hp : vp_in x3 7 ∧ goOK (goX μ) x2) : Ev2 G mX3_leaveByHorse 4 0 [(0, .ref 26), (1, .ref 19), (2, .int x2), (3, .int x3)] [] μ (fun v μ' => v = none ∧ μ' = put4 27 μ (lvH (goX μ) (tmX μ) x2 x3.toNatClampNeg 7 (get4 27 μ))) := by
  obtain ⟨h1, h2⟩ := hp
  obtain ⟨p, hp, rfl⟩ := vp_in_of h1 (by omega)
  rw [ix_nI (by omega)]
  have h := lp_X3_leaveByHorse (G := G) μ x2 hp h2 7 0 rfl
  have e0 : put4 27 μ (lvH (goX μ) (tmX μ) x2 p 0 (get4 27 μ)) = μ := put4_get4
  rw [e0] at h
  exact sg_X3_leaveByHorse_0 h
theorem sg_X3_leaveOnFoot_0 {G : GW} {K : Option Value → Mem → Prop} {μ : Mem} {r1 : Nat} {x2 : Int32} (hr1 : isRw r1) (h : Ev2 G mX3_leaveOnFoot 2 2 [(0, .ref 26), (1, .ref r1), (2, .int x2), (3, .int 0)] [] μ K) : Ev2 G mX3_leaveOnFoot 2 0 [(0, .ref 26), (1, .ref r1), (2, .int x2)] [] μ K := by
  refine ev_iconst (v := 0) dX3_leaveOnFoot_0 rfl ?_
  refine ev_istore_n (lv' := [(0, .ref 26), (1, .ref r1), (2, .int x2), (3, .int 0)]) dX3_leaveOnFoot_1 (by decide) [1, 2, 3, 0] rfl ?_
  exact h
theorem sg_X3_leaveOnFoot_2 {G : GW} {K : Option Value → Mem → Prop} {μ : Mem} {r1 : Nat} {x2 x3 : Int32} (hr1 : isRw r1) (h : ((7 ≤ x3) → K none μ) ∧ ((¬ (7 ≤ x3)) → ((x3 = x2) → Ev2 G mX3_leaveOnFoot 2 2 [(0, .ref 26), (1, .ref r1), (2, .int x2), (3, .int (x3 + 1))] [] μ K) ∧ ((¬ (x3 = x2)) → (vp_in x2 7) ∧ (vp_in x3 7) ∧ (vp_in x3 7) ∧ Ev2 G mX3_leaveOnFoot 2 2 [(0, .ref 26), (1, .ref r1), (2, .int x2), (3, .int (x3 + 1))] [] (arriveM μ x3.toNatClampNeg ((μ 27 x2.toNatClampNeg) + (μ r1 x3.toNatClampNeg)) (7 : Int32) x2) K))) : Ev2 G mX3_leaveOnFoot 2 2 [(0, .ref 26), (1, .ref r1), (2, .int x2), (3, .int x3)] [] μ K := by
  refine ev_iload_n dX3_leaveOnFoot_2 3 rfl ?_
  refine ev_bipush (v := 7) dX3_leaveOnFoot_3 rfl ?_
  refine ev_icmp_ge (tgt := 37) dX3_leaveOnFoot_5 rfl (fun c1 => ?_) (fun c1 => ?_)
  · have h2 := h.1 c1
    exact ev_return dX3_leaveOnFoot_37 rfl rfl rfl ⟨rfl, h2⟩
  · have h3 := h.2 c1
    refine ev_iload_n dX3_leaveOnFoot_8 3 rfl ?_
    refine ev_iload_n dX3_leaveOnFoot_9 2 rfl ?_
    refine ev_icmp_eq (tgt := 31) dX3_leaveOnFoot_10 rfl (fun c4 => ?_) (fun c4 => ?_)
    · have h5 := h3.1 c4
      refine ev_iinc (v := (x3 + 1)) (lv' := [(0, .ref 26), (1, .ref r1), (2, .int x2), (3, .int (x3 + 1))]) dX3_leaveOnFoot_31 3 rfl rfl (by decide) [1, 2, 3, 0] rfl ?_
      refine ev_goto (tgt := 2) dX3_leaveOnFoot_34 rfl ?_
      exact h5
    · have h6 := h3.2 c4
      refine ev_aload_n dX3_leaveOnFoot_13 0 rfl (by decide) ?_
      refine ev_iload_n dX3_leaveOnFoot_14 3 rfl ?_
      refine ev_aload_n dX3_leaveOnFoot_15 0 rfl (by decide) ?_
      refine ev_getR' fl_3_9 rfl kd_26 rf_26_0 dX3_leaveOnFoot_16 ?_
      refine ev_iload_n dX3_leaveOnFoot_19 2 rfl ?_
      have p7 := h6.1
      have h8 := h6.2
      refine ev_iaload' (v := (μ 27 x2.toNatClampNeg)) kd_27 ln_27 p7 rfl dX3_leaveOnFoot_20 ?_
      refine ev_aload_n dX3_leaveOnFoot_21 1 rfl (nzRw hr1) ?_
      refine ev_iload_n dX3_leaveOnFoot_22 3 rfl ?_
      have p9 := h8.1
      have h10 := h8.2
      refine ev_iaload' (v := (μ r1 x3.toNatClampNeg)) (kdRw hr1) (lnRw hr1) p9 rfl dX3_leaveOnFoot_23 ?_
      refine ev_iadd dX3_leaveOnFoot_24 ?_
      refine ev_bipush (v := 7) dX3_leaveOnFoot_25 rfl ?_
      refine ev_iload_n dX3_leaveOnFoot_27 2 rfl ?_
      have p11 := h10.1
      have h12 := h10.2
      refine e2_callVv (μ1 := (arriveM μ x3.toNatClampNeg ((μ 27 x2.toNatClampNeg) + (μ r1 x3.toNatClampNeg)) (7 : Int32) x2)) (a := 26) (as := [.int x3, .int ((μ 27 x2.toNatClampNeg) + (μ r1 x3.toNatClampNeg)), .int 7, .int x2]) (st := []) ok_X3_arrive vi_X3_arrive ml_3_64 hcl_3 kd_26 dX3_leaveOnFoot_28 rfl rfl (Nat.le_of_ble_eq_true rfl) (Nat.le_of_ble_eq_true rfl) (by decide) (ct_X3_arrive (x3) (((μ 27 x2.toNatClampNeg) + (μ r1 x3.toNatClampNeg))) (7) (x2) μ p11) ?_
      refine ev_iinc (v := (x3 + 1)) (lv' := [(0, .ref 26), (1, .ref r1), (2, .int x2), (3, .int (x3 + 1))]) dX3_leaveOnFoot_31 3 rfl rfl (by decide) [1, 2, 3, 0] rfl ?_
      refine ev_goto (tgt := 2) dX3_leaveOnFoot_34 rfl ?_
      exact h12
theorem lp_X3_leaveOnFoot {G : GW} (μ : Mem) {r : Nat} (hr : isRw r) {p : Nat} (hp : p < 7) : ∀ j i, i + j = 7 → Ev2 G mX3_leaveOnFoot 2 2 [(0, .ref 26), (1, .ref r), (2, .int (nI p)), (3, .int (nI i))] [] (put4 27 μ (lvF (fun _ q => μ r q) p i (get4 27 μ))) (fun v μ' => v = none ∧ μ' = put4 27 μ (lvF (fun _ q => μ r q) p 7 (get4 27 μ))) := by
  intro j
  induction j with
  | zero =>
    intro i hi
    obtain rfl : i = 7 := by omega
    exact sg_X3_leaveOnFoot_2 hr ⟨fun _ => ⟨rfl, rfl⟩, fun c => absurd (nI_le (a := 7) (Nat.le_refl 7) (by omega)) c⟩
  | succ j ih =>
    intro i hi
    have h := ih (i + 1) (by omega)
    rw [← nI_1] at h
    generalize hσ : lvF (fun _ q => μ r q) p i (get4 27 μ) = σ at h ⊢
    have ep : lvF (fun _ q => μ r q) p (i + 1) (get4 27 μ) = if ¬ i = p then comeS σ i (σ 0 p + μ r i) 7 (nI p) else σ := by
      rw [← hσ]
      rfl
    rw [ep] at h
    refine sg_X3_leaveOnFoot_2 hr ⟨fun c => absurd c (nI_ge (b := 7) (by omega) (by omega)), fun _ => ⟨fun c => ?_, fun c => ⟨vp_nI hp (by omega), vp_nI (by omega) (by omega), vp_nI (by omega) (by omega), ?_⟩⟩⟩
    · rw [if_neg (fun q => q ((nI_eq (by omega) (by omega)).mp c))] at h
      exact h
    · rw [if_pos (fun q => c (by rw [q]))] at h
      have e27 : put4 27 μ σ 27 = σ 0 := put4_in (β := 27) (r := 0) (by omega)
      have er : put4 27 μ σ r = μ r := put4_out (by rcases hr with q | q <;> omega)
      rw [ix_nI (by omega), ix_nI (by omega), e27, er, arrive_put]
      exact h
theorem ct_X3_leaveOnFoot {G : GW} (r : Nat) (hr : isRw r) (x2 : Int32) (μ : Mem) (hp : vp_in x2 7) : Ev2 G mX3_leaveOnFoot 2 0 [(0, .ref 26), (1, .ref r), (2, .int x2)] [] μ (fun v μ' => v = none ∧ μ' = put4 27 μ (lvF (fun _ q => μ r q) x2.toNatClampNeg 7 (get4 27 μ))) := by
  obtain ⟨p, hp7, rfl⟩ := vp_in_of hp (by omega)
  rw [ix_nI (by omega)]
  have h := lp_X3_leaveOnFoot (G := G) μ hr hp7 7 0 rfl
  have e0 : put4 27 μ (lvF (fun _ q => μ r q) p 0 (get4 27 μ)) = μ := put4_get4
  rw [e0] at h
  exact sg_X3_leaveOnFoot_0 hr h
theorem sg_X3_setOut_0 {G : GW} {K : Option Value → Mem → Prop} {μ : Mem} {x3 x4 x5 : Int32}  (h : Ev2 G mX3_setOut 5 3 [(0, .ref 26), (1, .ref 11), (2, .ref 19), (3, .int x3), (4, .int x4), (5, .int x5), (6, .int 0)] [] μ K) : Ev2 G mX3_setOut 5 0 [(0, .ref 26), (1, .ref 11), (2, .ref 19), (3, .int x3), (4, .int x4), (5, .int x5)] [] μ K := by
  refine ev_iconst (v := 0) dX3_setOut_0 rfl ?_
  refine ev_istore (lv' := [(0, .ref 26), (1, .ref 11), (2, .ref 19), (3, .int x3), (4, .int x4), (5, .int x5), (6, .int 0)]) dX3_setOut_1 (by decide) [1, 2, 3, 4, 5, 6, 0] rfl ?_
  exact h
theorem sg_X3_setOut_3 {G : GW} {K : Option Value → Mem → Prop} {μ : Mem} {x3 x4 x5 x6 : Int32}  (h : ((7 ≤ x6) → Ev2 G mX3_setOut 5 64 [(0, .ref 26), (1, .ref 11), (2, .ref 19), (3, .int x3), (5, .int x5), (6, .int 0)] [] μ K) ∧ ((¬ (7 ≤ x6)) → ((¬ x6 = x4) → (vp_in x6 7) ∧ (vp_in x6 7) ∧ (vp_in x6 7) ∧ (vp_in x6 7) ∧ Ev2 G mX3_setOut 5 3 [(0, .ref 26), (1, .ref 11), (2, .ref 19), (3, .int x3), (4, .int x4), (5, .int x5), (6, .int (x6 + 1))] [] (mset (mset (mset (mset μ 27 x6.toNatClampNeg 1000000000) 28 x6.toNatClampNeg (-1)) 29 x6.toNatClampNeg x4) 30 x6.toNatClampNeg 0) K) ∧ ((x6 = x4) → (vp_in x6 7) ∧ (vp_in x6 7) ∧ (vp_in x6 7) ∧ (vp_in x6 7) ∧ Ev2 G mX3_setOut 5 3 [(0, .ref 26), (1, .ref 11), (2, .ref 19), (3, .int x3), (4, .int x4), (5, .int x5), (6, .int (x6 + 1))] [] (mset (mset (mset (mset μ 27 x6.toNatClampNeg 0) 28 x6.toNatClampNeg (-1)) 29 x6.toNatClampNeg x4) 30 x6.toNatClampNeg 0) K))) : Ev2 G mX3_setOut 5 3 [(0, .ref 26), (1, .ref 11), (2, .ref 19), (3, .int x3), (4, .int x4), (5, .int x5), (6, .int x6)] [] μ K := by
  refine ev_iload dX3_setOut_3 6 rfl ?_
  refine ev_bipush (v := 7) dX3_setOut_5 rfl ?_
  refine ev_icmp_ge (tgt := 61) dX3_setOut_7 rfl (fun c1 => ?_) (fun c1 => ?_)
  · have h2 := h.1 c1
    refine ev_iconst (v := 0) dX3_setOut_61 rfl ?_
    refine ev_istore (lv' := [(0, .ref 26), (1, .ref 11), (2, .ref 19), (3, .int x3), (4, .int x4), (5, .int x5), (6, .int 0)]) dX3_setOut_62 (by decide) [1, 2, 3, 4, 5, 6, 0] rfl ?_
    refine EvW.less [0, 1, 2, 3, 5, 6] (lv' := [(0, .ref 26), (1, .ref 11), (2, .ref 19), (3, .int x3), (5, .int x5), (6, .int 0)]) rfl ?_
    exact h2
  · have h3 := h.2 c1
    refine ev_aload_n dX3_setOut_10 0 rfl (by decide) ?_
    refine ev_getR' fl_3_9 rfl kd_26 rf_26_0 dX3_setOut_11 ?_
    refine ev_iload dX3_setOut_14 6 rfl ?_
    refine ev_iload dX3_setOut_16 6 rfl ?_
    refine ev_iload dX3_setOut_18 4 rfl ?_
    refine ev_icmp_ne (tgt := 27) dX3_setOut_20 rfl (fun c4 => ?_) (fun c4 => ?_)
    · have h5 := h3.1 c4
      refine ev_ldc dX3_setOut_27 co_3_38 ?_
      have p7 := h5.1
      have h8 := h5.2
      refine ev_iastore' (j := x6.toNatClampNeg) kd_27 ln_27 p7 rfl dX3_setOut_29 ?_
      refine ev_aload_n dX3_setOut_30 0 rfl (by decide) ?_
      refine ev_getR' fl_3_15 rfl kd_26 rf_26_1 dX3_setOut_31 ?_
      refine ev_iload dX3_setOut_34 6 rfl ?_
      refine ev_iconst (v := (-1)) dX3_setOut_36 rfl ?_
      have p9 := h8.1
      have h10 := h8.2
      refine ev_iastore' (j := x6.toNatClampNeg) kd_28 ln_28 p9 rfl dX3_setOut_37 ?_
      refine ev_aload_n dX3_setOut_38 0 rfl (by decide) ?_
      refine ev_getR' fl_3_18 rfl kd_26 rf_26_2 dX3_setOut_39 ?_
      refine ev_iload dX3_setOut_42 6 rfl ?_
      refine ev_iload dX3_setOut_44 4 rfl ?_
      have p11 := h10.1
      have h12 := h10.2
      refine ev_iastore' (j := x6.toNatClampNeg) kd_29 ln_29 p11 rfl dX3_setOut_46 ?_
      refine ev_aload_n dX3_setOut_47 0 rfl (by decide) ?_
      refine ev_getR' fl_3_21 rfl kd_26 rf_26_3 dX3_setOut_48 ?_
      refine ev_iload dX3_setOut_51 6 rfl ?_
      refine ev_iconst (v := 0) dX3_setOut_53 rfl ?_
      have p13 := h12.1
      have h14 := h12.2
      refine ev_zastore' (j := x6.toNatClampNeg) kd_30 ln_30 p13 rfl rfl dX3_setOut_54 ?_
      refine ev_iinc (v := (x6 + 1)) (lv' := [(0, .ref 26), (1, .ref 11), (2, .ref 19), (3, .int x3), (4, .int x4), (5, .int x5), (6, .int (x6 + 1))]) dX3_setOut_55 6 rfl rfl (by decide) [1, 2, 3, 4, 5, 6, 0] rfl ?_
      refine ev_goto (tgt := 3) dX3_setOut_58 rfl ?_
      exact h14
    · have h6 := h3.2 c4
      refine ev_iconst (v := 0) dX3_setOut_23 rfl ?_
      refine ev_goto (tgt := 29) dX3_setOut_24 rfl ?_
      have p15 := h6.1
      have h16 := h6.2
      refine ev_iastore' (j := x6.toNatClampNeg) kd_27 ln_27 p15 rfl dX3_setOut_29 ?_
      refine ev_aload_n dX3_setOut_30 0 rfl (by decide) ?_
      refine ev_getR' fl_3_15 rfl kd_26 rf_26_1 dX3_setOut_31 ?_
      refine ev_iload dX3_setOut_34 6 rfl ?_
      refine ev_iconst (v := (-1)) dX3_setOut_36 rfl ?_
      have p17 := h16.1
      have h18 := h16.2
      refine ev_iastore' (j := x6.toNatClampNeg) kd_28 ln_28 p17 rfl dX3_setOut_37 ?_
      refine ev_aload_n dX3_setOut_38 0 rfl (by decide) ?_
      refine ev_getR' fl_3_18 rfl kd_26 rf_26_2 dX3_setOut_39 ?_
      refine ev_iload dX3_setOut_42 6 rfl ?_
      refine ev_iload dX3_setOut_44 4 rfl ?_
      have p19 := h18.1
      have h20 := h18.2
      refine ev_iastore' (j := x6.toNatClampNeg) kd_29 ln_29 p19 rfl dX3_setOut_46 ?_
      refine ev_aload_n dX3_setOut_47 0 rfl (by decide) ?_
      refine ev_getR' fl_3_21 rfl kd_26 rf_26_3 dX3_setOut_48 ?_
      refine ev_iload dX3_setOut_51 6 rfl ?_
      refine ev_iconst (v := 0) dX3_setOut_53 rfl ?_
      have p21 := h20.1
      have h22 := h20.2
      refine ev_zastore' (j := x6.toNatClampNeg) kd_30 ln_30 p21 rfl rfl dX3_setOut_54 ?_
      refine ev_iinc (v := (x6 + 1)) (lv' := [(0, .ref 26), (1, .ref 11), (2, .ref 19), (3, .int x3), (4, .int x4), (5, .int x5), (6, .int (x6 + 1))]) dX3_setOut_55 6 rfl rfl (by decide) [1, 2, 3, 4, 5, 6, 0] rfl ?_
      refine ev_goto (tgt := 3) dX3_setOut_58 rfl ?_
      exact h22
theorem sg_X3_setOut_64 {G : GW} {K : Option Value → Mem → Prop} {μ : Mem} {x3 x5 x6 : Int32}  (h : ((7 ≤ x6) → K none μ) ∧ ((¬ (7 ≤ x6)) → (((pickS (get4 27 μ) 7) = x5) → K none μ) ∧ ((¬ ((pickS (get4 27 μ) 7) = x5)) → ((¬ (pickS (get4 27 μ) 7) = (-1)) → (vp_in (pickS (get4 27 μ) 7) 7) ∧ (vp_in (pickS (get4 27 μ) 7) 7 ∧ goOK (goX (mset μ 30 (pickS (get4 27 μ) 7).toNatClampNeg 1)) x3) ∧ (vp_in (pickS (get4 27 μ) 7) 7) ∧ (vp_in (pickS (get4 27 μ) 7) 7) ∧ Ev2 G mX3_setOut 5 64 [(0, .ref 26), (1, .ref 11), (2, .ref 19), (3, .int x3), (5, .int x5), (6, .int (x6 + 1))] [] (put4 27 (put4 27 (mset μ 30 (pickS (get4 27 μ) 7).toNatClampNeg 1) (lvH (goX (mset μ 30 (pickS (get4 27 μ) 7).toNatClampNeg 1)) (tmX (mset μ 30 (pickS (get4 27 μ) 7).toNatClampNeg 1)) x3 (pickS (get4 27 μ) 7).toNatClampNeg 7 (get4 27 (mset μ 30 (pickS (get4 27 μ) 7).toNatClampNeg 1)))) (lvF (fun _ q => (put4 27 (mset μ 30 (pickS (get4 27 μ) 7).toNatClampNeg 1) (lvH (goX (mset μ 30 (pickS (get4 27 μ) 7).toNatClampNeg 1)) (tmX (mset μ 30 (pickS (get4 27 μ) 7).toNatClampNeg 1)) x3 (pickS (get4 27 μ) 7).toNatClampNeg 7 (get4 27 (mset μ 30 (pickS (get4 27 μ) 7).toNatClampNeg 1)))) (12 + (pickS (get4 27 μ) 7).toNatClampNeg) q) (pickS (get4 27 μ) 7).toNatClampNeg 7 (get4 27 (put4 27 (mset μ 30 (pickS (get4 27 μ) 7).toNatClampNeg 1) (lvH (goX (mset μ 30 (pickS (get4 27 μ) 7).toNatClampNeg 1)) (tmX (mset μ 30 (pickS (get4 27 μ) 7).toNatClampNeg 1)) x3 (pickS (get4 27 μ) 7).toNatClampNeg 7 (get4 27 (mset μ 30 (pickS (get4 27 μ) 7).toNatClampNeg 1))))))) K) ∧ (((pickS (get4 27 μ) 7) = (-1)) → K none μ)))) : Ev2 G mX3_setOut 5 64 [(0, .ref 26), (1, .ref 11), (2, .ref 19), (3, .int x3), (5, .int x5), (6, .int x6)] [] μ K := by
  refine ev_iload dX3_setOut_64 5 rfl ?_
  refine ev_bipush (v := 7) dX3_setOut_66 rfl ?_
  refine ev_icmp_ge (tgt := 123) dX3_setOut_68 rfl (fun c1 => ?_) (fun c1 => ?_)
  · have h2 := h.1 c1
    exact ev_return dX3_setOut_123 rfl rfl rfl ⟨rfl, h2⟩
  · have h3 := h.2 c1
    refine ev_aload_n dX3_setOut_71 0 rfl (by decide) ?_
    refine e2_callV (w := .int (pickS (get4 27 μ) 7)) (μ1 := μ) (a := 26) (as := []) (st := []) ok_X3_soonestNotLeft vi_X3_soonestNotLeft ml_3_39 hcl_3 kd_26 dX3_setOut_72 rfl rfl (Nat.le_of_ble_eq_true rfl) (Nat.le_of_ble_eq_true rfl) (by decide) (ct_X3_soonestNotLeft μ) ?_
    refine ev_istore (lv' := [(0, .ref 26), (1, .ref 11), (2, .ref 19), (3, .int x3), (5, .int x5), (6, .int x6), (7, .int (pickS (get4 27 μ) 7))]) dX3_setOut_75 (by decide) [1, 2, 3, 4, 5, 6, 0] rfl ?_
    refine ev_iload dX3_setOut_77 6 rfl ?_
    refine ev_iload dX3_setOut_79 4 rfl ?_
    refine ev_icmp_eq (tgt := 90) dX3_setOut_81 rfl (fun c4 => ?_) (fun c4 => ?_)
    · have h5 := h3.1 c4
      exact ev_return dX3_setOut_90 rfl rfl rfl ⟨rfl, h5⟩
    · have h6 := h3.2 c4
      refine ev_iload dX3_setOut_84 6 rfl ?_
      refine ev_iconst (v := (-1)) dX3_setOut_86 rfl ?_
      refine ev_icmp_ne (tgt := 91) dX3_setOut_87 rfl (fun c7 => ?_) (fun c7 => ?_)
      · have h8 := h6.1 c7
        refine ev_aload_n dX3_setOut_91 0 rfl (by decide) ?_
        refine ev_getR' fl_3_21 rfl kd_26 rf_26_3 dX3_setOut_92 ?_
        refine ev_iload dX3_setOut_95 6 rfl ?_
        refine ev_iconst (v := 1) dX3_setOut_97 rfl ?_
        have p10 := h8.1
        have h11 := h8.2
        refine ev_zastore' (j := (pickS (get4 27 μ) 7).toNatClampNeg) kd_30 ln_30 p10 rfl rfl dX3_setOut_98 ?_
        refine ev_aload_n dX3_setOut_99 0 rfl (by decide) ?_
        refine ev_aload_n dX3_setOut_100 2 rfl (by decide) ?_
        refine ev_iload_n dX3_setOut_101 3 rfl ?_
        refine ev_iload dX3_setOut_102 6 rfl ?_
        have p12 := h11.1
        have h13 := h11.2
        refine e2_callVv (μ1 := (put4 27 (mset μ 30 (pickS (get4 27 μ) 7).toNatClampNeg 1) (lvH (goX (mset μ 30 (pickS (get4 27 μ) 7).toNatClampNeg 1)) (tmX (mset μ 30 (pickS (get4 27 μ) 7).toNatClampNeg 1)) x3 (pickS (get4 27 μ) 7).toNatClampNeg 7 (get4 27 (mset μ 30 (pickS (get4 27 μ) 7).toNatClampNeg 1))))) (a := 26) (as := [.ref 19, .int x3, .int (pickS (get4 27 μ) 7)]) (st := []) ok_X3_leaveByHorse vi_X3_leaveByHorse ml_3_43 hcl_3 kd_26 dX3_setOut_104 rfl rfl (Nat.le_of_ble_eq_true rfl) (Nat.le_of_ble_eq_true rfl) (by decide) (ct_X3_leaveByHorse (x3) ((pickS (get4 27 μ) 7)) (mset μ 30 (pickS (get4 27 μ) 7).toNatClampNeg 1) p12) ?_
        refine ev_aload_n dX3_setOut_107 0 rfl (by decide) ?_
        refine ev_aload_n dX3_setOut_108 1 rfl (by decide) ?_
        refine ev_iload dX3_setOut_109 6 rfl ?_
        have p14 := h13.1
        have h15 := h13.2
        refine ev_aaload' (k := 4) kd_11 (by omega) ln_11 p14 (raW p14) dX3_setOut_111 ?_
        refine ev_iload dX3_setOut_112 6 rfl ?_
        have p16 := h15.1
        have h17 := h15.2
        refine e2_callVv (μ1 := (put4 27 (put4 27 (mset μ 30 (pickS (get4 27 μ) 7).toNatClampNeg 1) (lvH (goX (mset μ 30 (pickS (get4 27 μ) 7).toNatClampNeg 1)) (tmX (mset μ 30 (pickS (get4 27 μ) 7).toNatClampNeg 1)) x3 (pickS (get4 27 μ) 7).toNatClampNeg 7 (get4 27 (mset μ 30 (pickS (get4 27 μ) 7).toNatClampNeg 1)))) (lvF (fun _ q => (put4 27 (mset μ 30 (pickS (get4 27 μ) 7).toNatClampNeg 1) (lvH (goX (mset μ 30 (pickS (get4 27 μ) 7).toNatClampNeg 1)) (tmX (mset μ 30 (pickS (get4 27 μ) 7).toNatClampNeg 1)) x3 (pickS (get4 27 μ) 7).toNatClampNeg 7 (get4 27 (mset μ 30 (pickS (get4 27 μ) 7).toNatClampNeg 1)))) (12 + (pickS (get4 27 μ) 7).toNatClampNeg) q) (pickS (get4 27 μ) 7).toNatClampNeg 7 (get4 27 (put4 27 (mset μ 30 (pickS (get4 27 μ) 7).toNatClampNeg 1) (lvH (goX (mset μ 30 (pickS (get4 27 μ) 7).toNatClampNeg 1)) (tmX (mset μ 30 (pickS (get4 27 μ) 7).toNatClampNeg 1)) x3 (pickS (get4 27 μ) 7).toNatClampNeg 7 (get4 27 (mset μ 30 (pickS (get4 27 μ) 7).toNatClampNeg 1)))))))) (a := 26) (as := [.ref (12 + (pickS (get4 27 μ) 7).toNatClampNeg), .int (pickS (get4 27 μ) 7)]) (st := []) ok_X3_leaveOnFoot vi_X3_leaveOnFoot ml_3_47 hcl_3 kd_26 dX3_setOut_114 rfl rfl (Nat.le_of_ble_eq_true rfl) (Nat.le_of_ble_eq_true rfl) (by decide) (ct_X3_leaveOnFoot (12 + (pickS (get4 27 μ) 7).toNatClampNeg) (isW p14) ((pickS (get4 27 μ) 7)) (put4 27 (mset μ 30 (pickS (get4 27 μ) 7).toNatClampNeg 1) (lvH (goX (mset μ 30 (pickS (get4 27 μ) 7).toNatClampNeg 1)) (tmX (mset μ 30 (pickS (get4 27 μ) 7).toNatClampNeg 1)) x3 (pickS (get4 27 μ) 7).toNatClampNeg 7 (get4 27 (mset μ 30 (pickS (get4 27 μ) 7).toNatClampNeg 1)))) p16) ?_
        refine ev_iinc (v := (x6 + 1)) (lv' := [(0, .ref 26), (1, .ref 11), (2, .ref 19), (3, .int x3), (5, .int x5), (6, .int (x6 + 1)), (7, .int (pickS (get4 27 μ) 7))]) dX3_setOut_117 5 rfl rfl (by decide) [1, 2, 3, 4, 5, 0, 6] rfl ?_
        refine ev_goto (tgt := 64) dX3_setOut_120 rfl ?_
        refine EvW.less [0, 1, 2, 3, 4, 5] (lv' := [(0, .ref 26), (1, .ref 11), (2, .ref 19), (3, .int x3), (5, .int x5), (6, .int (x6 + 1))]) rfl ?_
        exact h17
      · have h9 := h6.2 c7
        exact ev_return dX3_setOut_90 rfl rfl rfl ⟨rfl, h9⟩
theorem goX_row {μ ν : Mem} (h : ∀ a, 43 ≤ a → ν a = μ a) : goX ν = goX μ ∧ tmX ν = tmX μ := by
  refine ⟨funext fun i => funext fun p => ?_, funext fun i => funext fun t => ?_⟩
  · unfold goX
    rw [h (43 + i) (by omega)]
  · unfold tmX
    rw [h (43 + i) (by omega)]
theorem wX_row {μ ν : Mem} (h : ∀ a, 12 ≤ a → a ≤ 18 → ν a = μ a) : wX ν = wX μ := by
  funext p q
  unfold wX
  split
  · rw [h (12 + p) (by omega) (by omega)]
  · rfl
theorem leave_put {ν : Mem} {set : Int32} {p : Nat} (hp : p < 7) :
    put4 27 (put4 27 (mset ν 30 p 1) (lvH (goX (mset ν 30 p 1)) (tmX (mset ν 30 p 1)) set p 7 (get4 27 (mset ν 30 p 1)))) (lvF (fun _ q => (put4 27 (mset ν 30 p 1) (lvH (goX (mset ν 30 p 1)) (tmX (mset ν 30 p 1)) set p 7 (get4 27 (mset ν 30 p 1)))) (12 + p) q) p 7 (get4 27 (put4 27 (mset ν 30 p 1) (lvH (goX (mset ν 30 p 1)) (tmX (mset ν 30 p 1)) set p 7 (get4 27 (mset ν 30 p 1))))))
      = put4 27 ν (leaveS (goX ν) (tmX ν) (wX ν) 7 set p (get4 27 ν)) := by
  have e1 : mset ν 30 p 1 = put4 27 ν (mset (get4 27 ν) 3 p 1) := by
    rw [← mset_put4 (by omega), put4_get4]
  rw [e1]
  obtain ⟨g1, g2⟩ := goX_row (μ := ν) (ν := put4 27 ν (mset (get4 27 ν) 3 p 1)) (fun a ha => put4_out (by omega))
  rw [g1, g2]
  simp only [put4_put4]
  have ew : (fun (_ : Nat) q => put4 27 ν (lvH (goX ν) (tmX ν) set p 7 (get4 27 (put4 27 ν (mset (get4 27 ν) 3 p 1)))) (12 + p) q) = fun _ q => wX ν p q := by
    funext _ q
    rw [put4_out (by omega)]
    exact (if_pos hp).symm
  rw [ew]
  refine put4_congr ?_
  have h1 : eq4 (get4 27 (put4 27 ν (lvH (goX ν) (tmX ν) set p 7 (get4 27 (put4 27 ν (mset (get4 27 ν) 3 p 1)))))) (lvH (goX ν) (tmX ν) set p 7 (mset (get4 27 ν) 3 p 1)) := eq4.gp.tr (eq4.gp.lvH _ _ _ _ _)
  have h2 := h1.lvF (fun _ q => wX ν p q) p 7
  have h3 : ∀ (σ : Mem) (k : Nat), lvF (fun _ q => wX ν p q) p k σ = lvF (wX ν) p k σ := by
    intro σ k
    induction k with
    | zero => rfl
    | succ k ih =>
      unfold lvF
      rw [ih]
  rw [h3, h3] at h2
  rw [h3]
  exact h2
theorem lp_X3_setOut {G : GW} (set stop : Int32) : ∀ j i (ν : Mem), i + j = 7 → goOK (goX ν) set → Ev2 G mX3_setOut 5 64 [(0, .ref 26), (1, .ref 11), (2, .ref 19), (3, .int set), (5, .int stop), (6, .int (nI i))] [] ν (fun v μ' => v = none ∧ μ' = put4 27 ν (stopRun (goX ν) (tmX ν) (wX ν) 7 set stop j (get4 27 ν))) := by
  intro j
  induction j with
  | zero =>
    intro i ν hi hg
    obtain rfl : i = 7 := by omega
    exact sg_X3_setOut_64 ⟨fun _ => ⟨rfl, put4_get4.symm⟩, fun c => absurd (nI_le (a := 7) (Nat.le_refl 7) (by omega)) c⟩
  | succ j ih =>
    intro i ν hi hg
    have es : stopRun (goX ν) (tmX ν) (wX ν) 7 set stop (j + 1) (get4 27 ν) = if pickS (get4 27 ν) 7 = stop ∨ pickS (get4 27 ν) 7 = -1 then get4 27 ν else stopRun (goX ν) (tmX ν) (wX ν) 7 set stop j (leaveS (goX ν) (tmX ν) (wX ν) 7 set (pickS (get4 27 ν) 7).toNatClampNeg (get4 27 ν)) := rfl
    rw [es]
    refine sg_X3_setOut_64 ⟨fun c => absurd c (nI_ge (b := 7) (by omega) (by omega)), fun _ => ⟨fun c => ?_, fun c => ⟨fun c2 => ?_, fun c2 => ?_⟩⟩⟩
    · rw [if_pos (Or.inl c)]
      exact ⟨rfl, put4_get4.symm⟩
    · rw [if_neg (by simp only [c, c2, or_self, not_false_eq_true])]
      rcases pickS_range (σ := get4 27 ν) 7 with q | ⟨p, hp, q, -⟩
      · exact absurd q c2
      · rw [q, ix_nI (by omega)]
        have g := goX_row (μ := ν) (ν := mset ν 30 p 1) (fun a ha => funext fun k => mset_other (by omega))
        refine ⟨vp_nI hp (by omega), ⟨vp_nI hp (by omega), by rw [g.1]; exact hg⟩, vp_nI hp (by omega), vp_nI hp (by omega), ?_⟩
        rw [leave_put hp, nI_1]
        have g2 := goX_row (μ := ν) (ν := put4 27 ν (leaveS (goX ν) (tmX ν) (wX ν) 7 set p (get4 27 ν))) (fun a ha => put4_out (by omega))
        have g3 := wX_row (μ := ν) (ν := put4 27 ν (leaveS (goX ν) (tmX ν) (wX ν) 7 set p (get4 27 ν))) (fun a _ _ => put4_out (by omega))
        have h := ih (i + 1) _ (by omega) (by rw [g2.1]; exact hg)
        rw [g2.1, g2.2, g3, put4_put4] at h
        refine h.imp ?_
        rintro v S' μ' ⟨hS, hv, hm⟩
        refine ⟨hS, hv, hm.trans (put4_congr ?_)⟩
        exact eq4.stop j eq4.gp
    · rw [if_pos (Or.inr c2)]
      exact ⟨rfl, put4_get4.symm⟩
theorem lp_X3_setOutI {G : GW} (set : Int32) {a : Nat} (ha : a < 7) (stop : Int32) (μ : Mem) (K : Option Value → Mem → Prop) (hk : Ev2 G mX3_setOut 5 64 [(0, .ref 26), (1, .ref 11), (2, .ref 19), (3, .int set), (5, .int stop), (6, .int 0)] [] (put4 27 μ (initS 1000000000 (nI a) a (get4 27 μ))) K) : ∀ j i, i + j = 7 →
    Ev2 G mX3_setOut 5 3 [(0, .ref 26), (1, .ref 11), (2, .ref 19), (3, .int set), (4, .int (nI a)), (5, .int stop), (6, .int (nI i))] [] (put4 27 μ (fun r k => if k < i then initS 1000000000 (nI a) a (get4 27 μ) r k else get4 27 μ r k)) K := by
  intro j
  induction j with
  | zero =>
    intro i hi
    obtain rfl : i = 7 := by omega
    refine sg_X3_setOut_3 ⟨fun _ => ?_, fun c => absurd (nI_le (a := 7) (Nat.le_refl 7) (by omega)) c⟩
    have e : put4 27 μ (fun r k => if k < 7 then initS 1000000000 (nI a) a (get4 27 μ) r k else get4 27 μ r k) = put4 27 μ (initS 1000000000 (nI a) a (get4 27 μ)) := put4_congr fun r _ => by
      funext k
      by_cases h : k < 7
      · rw [if_pos h]
      · rw [if_neg h]
        unfold initS
        rw [if_neg h]
    rw [e]
    exact hk
  | succ j ih =>
    intro i hi
    have h := ih (i + 1) (by omega)
    rw [← nI_1] at h
    have e : ∀ x : Int32, x = (if i = a then 0 else 1000000000) → mset (mset (mset (mset (put4 27 μ (fun r k => if k < i then initS 1000000000 (nI a) a (get4 27 μ) r k else get4 27 μ r k)) 27 i x) 28 i (-1)) 29 i (nI a)) 30 i 0 = put4 27 μ (fun r k => if k < i + 1 then initS 1000000000 (nI a) a (get4 27 μ) r k else get4 27 μ r k) := by
      intro x hx
      have a1 := mset_put4 (β := 27) (μ := μ) (σ := fun r k => if k < i then initS 1000000000 (nI a) a (get4 27 μ) r k else get4 27 μ r k) (r := 0) (k := i) (x := x) (by omega)
      rw [Nat.add_zero] at a1
      rw [a1]
      have a2 := fun σ => mset_put4 (β := 27) (μ := μ) (σ := σ) (r := 1) (k := i) (x := -1) (by omega)
      have a3 := fun σ => mset_put4 (β := 27) (μ := μ) (σ := σ) (r := 2) (k := i) (x := nI a) (by omega)
      have a4 := fun σ => mset_put4 (β := 27) (μ := μ) (σ := σ) (r := 3) (k := i) (x := 0) (by omega)
      rw [show (28 : Nat) = 27 + 1 from rfl, a2, show (29 : Nat) = 27 + 2 from rfl, a3, show (30 : Nat) = 27 + 3 from rfl, a4]
      refine put4_congr fun r hr => ?_
      funext k
      by_cases hk : k = i
      · subst hk
        rcases (show r = 0 ∨ r = 1 ∨ r = 2 ∨ r = 3 by omega) with rfl | rfl | rfl | rfl
        · simp [mset, initS, hx, show k < 7 by omega]
        · simp [mset, initS, show k < 7 by omega]
        · simp [mset, initS, show k < 7 by omega]
        · simp [mset, initS, show k < 7 by omega]
      · have : (k < i + 1) = (k < i) := by
          apply propext
          omega
        simp only [mset, hk, and_false, if_false, this]
    refine sg_X3_setOut_3 ⟨fun c => absurd c (nI_ge (b := 7) (by omega) (by omega)), fun _ => ⟨fun c => ⟨vp_nI (by omega) (by omega), vp_nI (by omega) (by omega), vp_nI (by omega) (by omega), vp_nI (by omega) (by omega), ?_⟩, fun c => ⟨vp_nI (by omega) (by omega), vp_nI (by omega) (by omega), vp_nI (by omega) (by omega), vp_nI (by omega) (by omega), ?_⟩⟩⟩
    · rw [ix_nI (by omega), e _ (if_neg (fun q => c (by rw [q]))).symm]
      exact h
    · rw [ix_nI (by omega), e _ (if_pos ((nI_eq (by omega) (by omega)).mp c)).symm]
      exact h
theorem ct_X3_setOut {G : GW} (x3 x4 x5 : Int32) (μ : Mem) (hp : vp_in x4 7 ∧ goOK (goX μ) x3) : Ev2 G mX3_setOut 5 0 [(0, .ref 26), (1, .ref 11), (2, .ref 19), (3, .int x3), (4, .int x4), (5, .int x5)] [] μ (fun v μ' => v = none ∧ μ' = put4 27 μ (stopRun (goX μ) (tmX μ) (wX μ) 7 x3 x5 7 (initS 1000000000 x4 x4.toNatClampNeg (get4 27 μ)))) := by
  obtain ⟨h1, h2⟩ := hp
  obtain ⟨a, ha, rfl⟩ := vp_in_of h1 (by omega)
  rw [ix_nI (by omega)]
  have g2 := goX_row (μ := μ) (ν := put4 27 μ (initS 1000000000 (nI a) a (get4 27 μ))) (fun a ha => put4_out (by omega))
  have g3 := wX_row (μ := μ) (ν := put4 27 μ (initS 1000000000 (nI a) a (get4 27 μ))) (fun a _ _ => put4_out (by omega))
  have h := lp_X3_setOut (G := G) x3 x5 7 0 (put4 27 μ (initS 1000000000 (nI a) a (get4 27 μ))) rfl (by rw [g2.1]; exact h2)
  rw [g2.1, g2.2, g3, put4_put4] at h
  have h' : Ev2 G mX3_setOut 5 64 [(0, .ref 26), (1, .ref 11), (2, .ref 19), (3, .int x3), (5, .int x5), (6, .int 0)] [] (put4 27 μ (initS 1000000000 (nI a) a (get4 27 μ))) (fun v μ' => v = none ∧ μ' = put4 27 μ (stopRun (goX μ) (tmX μ) (wX μ) 7 x3 x5 7 (initS 1000000000 (nI a) a (get4 27 μ)))) := by
    refine h.imp ?_
    rintro v S' μ' ⟨hS, hv, hm⟩
    exact ⟨hS, hv, hm.trans (put4_congr (eq4.stop 7 eq4.gp))⟩
  have hi := lp_X3_setOutI (G := G) x3 ha x5 μ _ h' 7 0 rfl
  have e0 : put4 27 μ (fun r k => if k < 0 then initS 1000000000 (nI a) a (get4 27 μ) r k else get4 27 μ r k) = μ := put4_get4
  rw [e0] at hi
  exact sg_X3_setOut_0 hi
theorem sg_X3_soonAt_0 {G : GW} {K : Option Value → Mem → Prop} {μ : Mem} {x1 : Int32}  (h : (vp_in x1 7) ∧ K (some (.int (μ 27 x1.toNatClampNeg))) μ) : Ev2 G mX3_soonAt 1 0 [(0, .ref 26), (1, .int x1)] [] μ K := by
  refine ev_aload_n dX3_soonAt_0 0 rfl (by decide) ?_
  refine ev_getR' fl_3_9 rfl kd_26 rf_26_0 dX3_soonAt_1 ?_
  refine ev_iload_n dX3_soonAt_4 1 rfl ?_
  have p1 := h.1
  have h2 := h.2
  refine ev_iaload' (v := (μ 27 x1.toNatClampNeg)) kd_27 ln_27 p1 rfl dX3_soonAt_5 ?_
  exact ev_ireturn dX3_soonAt_6 rfl True.intro rfl rfl ⟨rfl, h2⟩
theorem ct_X3_soonAt {G : GW} (x1 : Int32) (μ : Mem) (hp : vp_in x1 7) : Ev2 G mX3_soonAt 1 0 [(0, .ref 26), (1, .int x1)] [] μ (fun v μ' => v = some (.int (μ 27 x1.toNatClampNeg)) ∧ μ' = μ) := sg_X3_soonAt_0 ⟨hp, rfl, rfl⟩
