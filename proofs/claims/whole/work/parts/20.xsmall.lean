/-! ===== the class: what is such a thing; horses ===== -/
theorem sg_X7_isWithin_0 {G : GW} {K : Option Value → Mem → Prop} {μ : Mem} {x0 x1 x2 : Int32}  (h : ((x0 < x1) → K (some (.int 0)) μ) ∧ ((¬ (x0 < x1)) → ((x2 < x0) → K (some (.int 0)) μ) ∧ ((¬ (x2 < x0)) → K (some (.int 1)) μ))) : Ev2 G mX7_isWithin 1 0 [(0, .int x0), (1, .int x1), (2, .int x2)] [] μ K := by
  refine ev_iload_n dX7_isWithin_0 0 rfl ?_
  refine ev_iload_n dX7_isWithin_1 1 rfl ?_
  refine ev_icmp_lt (tgt := 14) dX7_isWithin_2 rfl (fun c1 => ?_) (fun c1 => ?_)
  · have h2 := h.1 c1
    refine ev_iconst (v := 0) dX7_isWithin_14 rfl ?_
    exact ev_ireturn dX7_isWithin_15 rfl rfl rfl rfl ⟨rfl, h2⟩
  · have h3 := h.2 c1
    refine ev_iload_n dX7_isWithin_5 0 rfl ?_
    refine ev_iload_n dX7_isWithin_6 2 rfl ?_
    refine ev_icmp_gt (tgt := 14) dX7_isWithin_7 rfl (fun c4 => ?_) (fun c4 => ?_)
    · have h5 := h3.1 c4
      refine ev_iconst (v := 0) dX7_isWithin_14 rfl ?_
      exact ev_ireturn dX7_isWithin_15 rfl rfl rfl rfl ⟨rfl, h5⟩
    · have h6 := h3.2 c4
      refine ev_iconst (v := 1) dX7_isWithin_10 rfl ?_
      refine ev_goto (tgt := 15) dX7_isWithin_11 rfl ?_
      exact ev_ireturn dX7_isWithin_15 rfl rfl rfl rfl ⟨rfl, h6⟩
theorem ct_X7_isWithin {G : GW} (x0 x1 x2 : Int32) (μ : Mem) : Ev2 G mX7_isWithin 1 0 [(0, .int x0), (1, .int x1), (2, .int x2)] [] μ (fun v μ' => v = some (.int (bi (inB x0 x1 x2))) ∧ μ' = μ) := by
  refine sg_X7_isWithin_0 ?_
  repeat' (first | intro _ | apply And.intro)
  all_goals simp_all [inB, bi, ← Int32.not_lt]
theorem sg_X7_isPlace_0 {G : GW} {K : Option Value → Mem → Prop} {μ : Mem} {x0 : Int32}  (h : K (some (.int (bi (inB x0 (0 : Int32) (6 : Int32))))) μ) : Ev2 G mX7_isPlace 2 0 [(0, .int x0)] [] μ K := by
  refine ev_iload_n dX7_isPlace_0 0 rfl ?_
  refine ev_iconst (v := 0) dX7_isPlace_1 rfl ?_
  refine ev_bipush (v := 6) dX7_isPlace_2 rfl ?_
  refine e2_callS (w := .int (bi (inB x0 (0 : Int32) (6 : Int32)))) (μ1 := μ) (as := [.int x0, .int 0, .int 6]) (st := []) ok_X7_isWithin sv_X7_isWithin ml_7_86 dX7_isPlace_4 rfl rfl (Nat.le_of_ble_eq_true rfl) (Nat.le_of_ble_eq_true rfl) (by decide) (ct_X7_isWithin (x0) (0) (6) μ) ?_
  exact ev_ireturn dX7_isPlace_7 rfl (nb_bi _) rfl rfl ⟨rfl, h⟩
theorem ct_X7_isPlace {G : GW} (x0 : Int32) (μ : Mem) : Ev2 G mX7_isPlace 2 0 [(0, .int x0)] [] μ (fun v μ' => v = some (.int (bi (inB x0 0 6))) ∧ μ' = μ) := sg_X7_isPlace_0 ⟨rfl, rfl⟩
theorem sg_X7_isWay_0 {G : GW} {K : Option Value → Mem → Prop} {μ : Mem} {x0 x1 : Int32}  (h : (((inB x0 0 6) = false) → K (some (.int 0)) μ) ∧ (((inB x0 0 6) = true) → (((inB x1 0 6) = false) → K (some (.int 0)) μ) ∧ (((inB x1 0 6) = true) → ((x0 = x1) → K (some (.int 0)) μ) ∧ ((¬ (x0 = x1)) → K (some (.int 1)) μ)))) : Ev2 G mX7_isWay 3 0 [(0, .int x0), (1, .int x1)] [] μ K := by
  refine ev_iload_n dX7_isWay_0 0 rfl ?_
  refine e2_callS (w := .int (bi (inB x0 0 6))) (μ1 := μ) (as := [.int x0]) (st := []) ok_X7_isPlace sv_X7_isPlace ml_7_94 dX7_isWay_1 rfl rfl (Nat.le_of_ble_eq_true rfl) (Nat.le_of_ble_eq_true rfl) (by decide) (ct_X7_isPlace (x0) μ) ?_
  refine ev_ifeq_bi (tgt := 23) dX7_isWay_4 rfl (fun c1 => ?_) (fun c1 => ?_)
  · have h2 := h.1 c1
    refine ev_iconst (v := 0) dX7_isWay_23 rfl ?_
    exact ev_ireturn dX7_isWay_24 rfl rfl rfl rfl ⟨rfl, h2⟩
  · have h3 := h.2 c1
    refine ev_iload_n dX7_isWay_7 1 rfl ?_
    refine e2_callS (w := .int (bi (inB x1 0 6))) (μ1 := μ) (as := [.int x1]) (st := []) ok_X7_isPlace sv_X7_isPlace ml_7_94 dX7_isWay_8 rfl rfl (Nat.le_of_ble_eq_true rfl) (Nat.le_of_ble_eq_true rfl) (by decide) (ct_X7_isPlace (x1) μ) ?_
    refine ev_ifeq_bi (tgt := 23) dX7_isWay_11 rfl (fun c4 => ?_) (fun c4 => ?_)
    · have h5 := h3.1 c4
      refine ev_iconst (v := 0) dX7_isWay_23 rfl ?_
      exact ev_ireturn dX7_isWay_24 rfl rfl rfl rfl ⟨rfl, h5⟩
    · have h6 := h3.2 c4
      refine ev_iload_n dX7_isWay_14 0 rfl ?_
      refine ev_iload_n dX7_isWay_15 1 rfl ?_
      refine ev_icmp_eq (tgt := 23) dX7_isWay_16 rfl (fun c7 => ?_) (fun c7 => ?_)
      · have h8 := h6.1 c7
        refine ev_iconst (v := 0) dX7_isWay_23 rfl ?_
        exact ev_ireturn dX7_isWay_24 rfl rfl rfl rfl ⟨rfl, h8⟩
      · have h9 := h6.2 c7
        refine ev_iconst (v := 1) dX7_isWay_19 rfl ?_
        refine ev_goto (tgt := 24) dX7_isWay_20 rfl ?_
        exact ev_ireturn dX7_isWay_24 rfl rfl rfl rfl ⟨rfl, h9⟩
theorem ct_X7_isWay {G : GW} (x0 x1 : Int32) (μ : Mem) : Ev2 G mX7_isWay 3 0 [(0, .int x0), (1, .int x1)] [] μ (fun v μ' => v = some (.int (bi (wayB x0 x1))) ∧ μ' = μ) := by
  refine sg_X7_isWay_0 ?_
  repeat' (first | intro _ | apply And.intro)
  all_goals simp_all [wayB, bi, ← Int32.not_lt]
theorem sg_X7_isByte_0 {G : GW} {K : Option Value → Mem → Prop} {μ : Mem} {x0 : Int32}  (h : K (some (.int (bi (inB x0 (0 : Int32) (255 : Int32))))) μ) : Ev2 G mX7_isByte 2 0 [(0, .int x0)] [] μ K := by
  refine ev_iload_n dX7_isByte_0 0 rfl ?_
  refine ev_iconst (v := 0) dX7_isByte_1 rfl ?_
  refine ev_sipush (v := 255) dX7_isByte_2 rfl ?_
  refine e2_callS (w := .int (bi (inB x0 (0 : Int32) (255 : Int32)))) (μ1 := μ) (as := [.int x0, .int 0, .int 255]) (st := []) ok_X7_isWithin sv_X7_isWithin ml_7_86 dX7_isByte_5 rfl rfl (Nat.le_of_ble_eq_true rfl) (Nat.le_of_ble_eq_true rfl) (by decide) (ct_X7_isWithin (x0) (0) (255) μ) ?_
  exact ev_ireturn dX7_isByte_8 rfl (nb_bi _) rfl rfl ⟨rfl, h⟩
theorem ct_X7_isByte {G : GW} (x0 : Int32) (μ : Mem) : Ev2 G mX7_isByte 2 0 [(0, .int x0)] [] μ (fun v μ' => v = some (.int (bi (inB x0 0 255))) ∧ μ' = μ) := sg_X7_isByte_0 ⟨rfl, rfl⟩
theorem sg_X7_areBytes_0 {G : GW} {K : Option Value → Mem → Prop} {μ : Mem} {x0 x1 x2 x3 x4 : Int32}  (h : (((inB x0 0 255) = false) → K (some (.int 0)) μ) ∧ (((inB x0 0 255) = true) → (((inB x1 0 255) = false) → K (some (.int 0)) μ) ∧ (((inB x1 0 255) = true) → (((inB x2 0 255) = false) → K (some (.int 0)) μ) ∧ (((inB x2 0 255) = true) → (((inB x3 0 255) = false) → K (some (.int 0)) μ) ∧ (((inB x3 0 255) = true) → (((inB x4 0 255) = false) → K (some (.int 0)) μ) ∧ (((inB x4 0 255) = true) → K (some (.int 1)) μ)))))) : Ev2 G mX7_areBytes 3 0 [(0, .int x0), (1, .int x1), (2, .int x2), (3, .int x3), (4, .int x4)] [] μ K := by
  refine ev_iload_n dX7_areBytes_0 0 rfl ?_
  refine e2_callS (w := .int (bi (inB x0 0 255))) (μ1 := μ) (as := [.int x0]) (st := []) ok_X7_isByte sv_X7_isByte ml_7_305 dX7_areBytes_1 rfl rfl (Nat.le_of_ble_eq_true rfl) (Nat.le_of_ble_eq_true rfl) (by decide) (ct_X7_isByte (x0) μ) ?_
  refine ev_ifeq_bi (tgt := 40) dX7_areBytes_4 rfl (fun c1 => ?_) (fun c1 => ?_)
  · have h2 := h.1 c1
    refine ev_iconst (v := 0) dX7_areBytes_40 rfl ?_
    exact ev_ireturn dX7_areBytes_41 rfl rfl rfl rfl ⟨rfl, h2⟩
  · have h3 := h.2 c1
    refine ev_iload_n dX7_areBytes_7 1 rfl ?_
    refine e2_callS (w := .int (bi (inB x1 0 255))) (μ1 := μ) (as := [.int x1]) (st := []) ok_X7_isByte sv_X7_isByte ml_7_305 dX7_areBytes_8 rfl rfl (Nat.le_of_ble_eq_true rfl) (Nat.le_of_ble_eq_true rfl) (by decide) (ct_X7_isByte (x1) μ) ?_
    refine ev_ifeq_bi (tgt := 40) dX7_areBytes_11 rfl (fun c4 => ?_) (fun c4 => ?_)
    · have h5 := h3.1 c4
      refine ev_iconst (v := 0) dX7_areBytes_40 rfl ?_
      exact ev_ireturn dX7_areBytes_41 rfl rfl rfl rfl ⟨rfl, h5⟩
    · have h6 := h3.2 c4
      refine ev_iload_n dX7_areBytes_14 2 rfl ?_
      refine e2_callS (w := .int (bi (inB x2 0 255))) (μ1 := μ) (as := [.int x2]) (st := []) ok_X7_isByte sv_X7_isByte ml_7_305 dX7_areBytes_15 rfl rfl (Nat.le_of_ble_eq_true rfl) (Nat.le_of_ble_eq_true rfl) (by decide) (ct_X7_isByte (x2) μ) ?_
      refine ev_ifeq_bi (tgt := 40) dX7_areBytes_18 rfl (fun c7 => ?_) (fun c7 => ?_)
      · have h8 := h6.1 c7
        refine ev_iconst (v := 0) dX7_areBytes_40 rfl ?_
        exact ev_ireturn dX7_areBytes_41 rfl rfl rfl rfl ⟨rfl, h8⟩
      · have h9 := h6.2 c7
        refine ev_iload_n dX7_areBytes_21 3 rfl ?_
        refine e2_callS (w := .int (bi (inB x3 0 255))) (μ1 := μ) (as := [.int x3]) (st := []) ok_X7_isByte sv_X7_isByte ml_7_305 dX7_areBytes_22 rfl rfl (Nat.le_of_ble_eq_true rfl) (Nat.le_of_ble_eq_true rfl) (by decide) (ct_X7_isByte (x3) μ) ?_
        refine ev_ifeq_bi (tgt := 40) dX7_areBytes_25 rfl (fun c10 => ?_) (fun c10 => ?_)
        · have h11 := h9.1 c10
          refine ev_iconst (v := 0) dX7_areBytes_40 rfl ?_
          exact ev_ireturn dX7_areBytes_41 rfl rfl rfl rfl ⟨rfl, h11⟩
        · have h12 := h9.2 c10
          refine ev_iload dX7_areBytes_28 4 rfl ?_
          refine e2_callS (w := .int (bi (inB x4 0 255))) (μ1 := μ) (as := [.int x4]) (st := []) ok_X7_isByte sv_X7_isByte ml_7_305 dX7_areBytes_30 rfl rfl (Nat.le_of_ble_eq_true rfl) (Nat.le_of_ble_eq_true rfl) (by decide) (ct_X7_isByte (x4) μ) ?_
          refine ev_ifeq_bi (tgt := 40) dX7_areBytes_33 rfl (fun c13 => ?_) (fun c13 => ?_)
          · have h14 := h12.1 c13
            refine ev_iconst (v := 0) dX7_areBytes_40 rfl ?_
            exact ev_ireturn dX7_areBytes_41 rfl rfl rfl rfl ⟨rfl, h14⟩
          · have h15 := h12.2 c13
            refine ev_iconst (v := 1) dX7_areBytes_36 rfl ?_
            refine ev_goto (tgt := 41) dX7_areBytes_37 rfl ?_
            exact ev_ireturn dX7_areBytes_41 rfl rfl rfl rfl ⟨rfl, h15⟩
theorem ct_X7_areBytes {G : GW} (x0 x1 x2 x3 x4 : Int32) (μ : Mem) : Ev2 G mX7_areBytes 3 0 [(0, .int x0), (1, .int x1), (2, .int x2), (3, .int x3), (4, .int x4)] [] μ (fun v μ' => v = some (.int (bi (bytesB x0 x1 x2 x3 x4))) ∧ μ' = μ) := by
  refine sg_X7_areBytes_0 ?_
  repeat' (first | intro _ | apply And.intro)
  all_goals simp_all [bytesB, bi, ← Int32.not_lt]
theorem sg_X7_isSheet_0 {G : GW} {K : Option Value → Mem → Prop} {μ : Mem} {x0 : Int32}  (h : K (some (.int (bi (inB x0 (0 : Int32) (3 : Int32))))) μ) : Ev2 G mX7_isSheet 2 0 [(0, .int x0)] [] μ K := by
  refine ev_iload_n dX7_isSheet_0 0 rfl ?_
  refine ev_iconst (v := 0) dX7_isSheet_1 rfl ?_
  refine ev_iconst (v := 3) dX7_isSheet_2 rfl ?_
  refine e2_callS (w := .int (bi (inB x0 (0 : Int32) (3 : Int32)))) (μ1 := μ) (as := [.int x0, .int 0, .int 3]) (st := []) ok_X7_isWithin sv_X7_isWithin ml_7_86 dX7_isSheet_3 rfl rfl (Nat.le_of_ble_eq_true rfl) (Nat.le_of_ble_eq_true rfl) (by decide) (ct_X7_isWithin (x0) (0) (3) μ) ?_
  exact ev_ireturn dX7_isSheet_6 rfl (nb_bi _) rfl rfl ⟨rfl, h⟩
theorem ct_X7_isSheet {G : GW} (x0 : Int32) (μ : Mem) : Ev2 G mX7_isSheet 2 0 [(0, .int x0)] [] μ (fun v μ' => v = some (.int (bi (inB x0 0 3))) ∧ μ' = μ) := sg_X7_isSheet_0 ⟨rfl, rfl⟩
theorem sg_X7_isHorse_0 {G : GW} {K : Option Value → Mem → Prop} {μ : Mem} {x1 : Int32}  (h : K (some (.int (bi (inB x1 (0 : Int32) ((μ 10 9) - 1))))) μ) : Ev2 G mX7_isHorse 2 0 [(0, .ref 10), (1, .int x1)] [] μ K := by
  refine ev_iload_n dX7_isHorse_0 1 rfl ?_
  refine ev_iconst (v := 0) dX7_isHorse_1 rfl ?_
  refine ev_aload_n dX7_isHorse_2 0 rfl (by decide) ?_
  refine ev_getI' (v := (μ 10 9)) fl_7_60 rfl kd_10 rfl dX7_isHorse_3 ?_
  refine ev_iconst (v := 1) dX7_isHorse_6 rfl ?_
  refine ev_isub dX7_isHorse_7 ?_
  refine e2_callS (w := .int (bi (inB x1 (0 : Int32) ((μ 10 9) - 1)))) (μ1 := μ) (as := [.int x1, .int 0, .int ((μ 10 9) - 1)]) (st := []) ok_X7_isWithin sv_X7_isWithin ml_7_86 dX7_isHorse_8 rfl rfl (Nat.le_of_ble_eq_true rfl) (Nat.le_of_ble_eq_true rfl) (by decide) (ct_X7_isWithin (x1) (0) (((μ 10 9) - 1)) μ) ?_
  exact ev_ireturn dX7_isHorse_11 rfl (nb_bi _) rfl rfl ⟨rfl, h⟩
theorem ct_X7_isHorse {G : GW} (x1 : Int32) (μ : Mem) : Ev2 G mX7_isHorse 2 0 [(0, .ref 10), (1, .int x1)] [] μ (fun v μ' => v = some (.int (bi (inB x1 0 (μ 10 9 - 1)))) ∧ μ' = μ) := sg_X7_isHorse_0 ⟨rfl, rfl⟩
theorem sg_X7_isRide_0 {G : GW} {K : Option Value → Mem → Prop} {μ : Mem} {x1 : Int32}  (h : K (some (.int (bi (inB x1 (0 : Int32) ((μ 10 10) - 1))))) μ) : Ev2 G mX7_isRide 2 0 [(0, .ref 10), (1, .int x1)] [] μ K := by
  refine ev_iload_n dX7_isRide_0 1 rfl ?_
  refine ev_iconst (v := 0) dX7_isRide_1 rfl ?_
  refine ev_aload_n dX7_isRide_2 0 rfl (by decide) ?_
  refine ev_getI' (v := (μ 10 10)) fl_7_64 rfl kd_10 rfl dX7_isRide_3 ?_
  refine ev_iconst (v := 1) dX7_isRide_6 rfl ?_
  refine ev_isub dX7_isRide_7 ?_
  refine e2_callS (w := .int (bi (inB x1 (0 : Int32) ((μ 10 10) - 1)))) (μ1 := μ) (as := [.int x1, .int 0, .int ((μ 10 10) - 1)]) (st := []) ok_X7_isWithin sv_X7_isWithin ml_7_86 dX7_isRide_8 rfl rfl (Nat.le_of_ble_eq_true rfl) (Nat.le_of_ble_eq_true rfl) (by decide) (ct_X7_isWithin (x1) (0) (((μ 10 10) - 1)) μ) ?_
  exact ev_ireturn dX7_isRide_11 rfl (nb_bi _) rfl rfl ⟨rfl, h⟩
theorem ct_X7_isRide {G : GW} (x1 : Int32) (μ : Mem) : Ev2 G mX7_isRide 2 0 [(0, .ref 10), (1, .int x1)] [] μ (fun v μ' => v = some (.int (bi (inB x1 0 (μ 10 10 - 1)))) ∧ μ' = μ) := sg_X7_isRide_0 ⟨rfl, rfl⟩
theorem sg_X7_isIn_0 {G : GW} {K : Option Value → Mem → Prop} {μ : Mem} {x0 x1 : Int32}  (h : ((((x0 >>> (x1 &&& 31)) &&& 1) = 0) → K (some (.int 0)) μ) ∧ ((¬ (((x0 >>> (x1 &&& 31)) &&& 1) = 0)) → K (some (.int 1)) μ)) : Ev2 G mX7_isIn 1 0 [(0, .int x0), (1, .int x1)] [] μ K := by
  refine ev_iload_n dX7_isIn_0 0 rfl ?_
  refine ev_iload_n dX7_isIn_1 1 rfl ?_
  refine ev_ishr dX7_isIn_2 ?_
  refine ev_iconst (v := 1) dX7_isIn_3 rfl ?_
  refine ev_iand dX7_isIn_4 ?_
  refine ev_if_eq (tgt := 12) dX7_isIn_5 rfl (fun c1 => ?_) (fun c1 => ?_)
  · have h2 := h.1 c1
    refine ev_iconst (v := 0) dX7_isIn_12 rfl ?_
    exact ev_ireturn dX7_isIn_13 rfl rfl rfl rfl ⟨rfl, h2⟩
  · have h3 := h.2 c1
    refine ev_iconst (v := 1) dX7_isIn_8 rfl ?_
    refine ev_goto (tgt := 13) dX7_isIn_9 rfl ?_
    exact ev_ireturn dX7_isIn_13 rfl rfl rfl rfl ⟨rfl, h3⟩
theorem ct_X7_isIn {G : GW} (x0 x1 : Int32) (μ : Mem) : Ev2 G mX7_isIn 1 0 [(0, .int x0), (1, .int x1)] [] μ (fun v μ' => v = some (.int (bi (bitB x0 x1))) ∧ μ' = μ) := by
  refine sg_X7_isIn_0 ?_
  repeat' (first | intro _ | apply And.intro)
  all_goals simp_all [bitB, bi, ← Int32.not_lt]
theorem sg_X7_bounded_0 {G : GW} {K : Option Value → Mem → Prop} {μ : Mem} {x0 x1 x2 : Int32}  (h : K (some (.int (imax x1 (imin x0 x2)))) μ) : Ev2 G mX7_bounded 2 0 [(0, .int x0), (1, .int x1), (2, .int x2)] [] μ K := by
  refine ev_iload_n dX7_bounded_0 1 rfl ?_
  refine ev_iload_n dX7_bounded_1 0 rfl ?_
  refine ev_iload_n dX7_bounded_2 2 rfl ?_
  refine ev_min ml_7_318 dX7_bounded_3 (Nat.le_of_ble_eq_true rfl) (by decide) ⟨Nat.le_refl _, Nat.le_refl _⟩ ?_
  refine ev_max ml_7_202 dX7_bounded_6 (Nat.le_of_ble_eq_true rfl) (by decide) ⟨Nat.le_refl _, Nat.le_refl _⟩ ?_
  exact ev_ireturn dX7_bounded_9 rfl True.intro rfl rfl ⟨rfl, h⟩
theorem ct_X7_bounded {G : GW} (x0 x1 x2 : Int32) (μ : Mem) : Ev2 G mX7_bounded 2 0 [(0, .int x0), (1, .int x1), (2, .int x2)] [] μ (fun v μ' => v = some (.int (boundF x0 x1 x2)) ∧ μ' = μ) := sg_X7_bounded_0 ⟨rfl, rfl⟩
theorem sg_X7_allHorses_0 {G : GW} {K : Option Value → Mem → Prop} {μ : Mem}   (h : K (some (.int (((1 : Int32) <<< ((μ 10 9) &&& 31)) - 1))) μ) : Ev2 G mX7_allHorses 1 0 [(0, .ref 10)] [] μ K := by
  refine ev_iconst (v := 1) dX7_allHorses_0 rfl ?_
  refine ev_aload_n dX7_allHorses_1 0 rfl (by decide) ?_
  refine ev_getI' (v := (μ 10 9)) fl_7_60 rfl kd_10 rfl dX7_allHorses_2 ?_
  refine ev_ishl dX7_allHorses_5 ?_
  refine ev_iconst (v := 1) dX7_allHorses_6 rfl ?_
  refine ev_isub dX7_allHorses_7 ?_
  exact ev_ireturn dX7_allHorses_8 rfl True.intro rfl rfl ⟨rfl, h⟩
theorem ct_X7_allHorses {G : GW} (μ : Mem) : Ev2 G mX7_allHorses 1 0 [(0, .ref 10)] [] μ (fun v μ' => v = some (.int ((1 <<< (μ 10 9 &&& 31)) - 1)) ∧ μ' = μ) := sg_X7_allHorses_0 ⟨rfl, rfl⟩
/-! horses -/
theorem sg_X0_goesToAndFro_0 {G : GW} {K : Option Value → Mem → Prop} {μ : Mem} {o : Nat} {x1 : Int32} (ho : isHo o) (h : ((¬ x1 = (μ o 1)) → ((¬ x1 = (μ o 2)) → K (some (.int (-1))) μ) ∧ ((x1 = (μ o 2)) → K (some (.int (μ o 1))) μ)) ∧ ((x1 = (μ o 1)) → K (some (.int (μ o 2))) μ)) : Ev2 G mX0_goesToAndFro 1 0 [(0, .ref o), (1, .int x1)] [] μ K := by
  refine ev_iload_n dX0_goesToAndFro_0 1 rfl ?_
  refine ev_aload_n dX0_goesToAndFro_1 0 rfl (nzHo ho) ?_
  refine ev_getI' (v := (μ o 1)) fl_0_15 rfl (kdHo ho) rfl dX0_goesToAndFro_2 ?_
  refine ev_icmp_ne (tgt := 15) dX0_goesToAndFro_5 rfl (fun c1 => ?_) (fun c1 => ?_)
  · have h2 := h.1 c1
    refine ev_iload_n dX0_goesToAndFro_15 1 rfl ?_
    refine ev_aload_n dX0_goesToAndFro_16 0 rfl (nzHo ho) ?_
    refine ev_getI' (v := (μ o 2)) fl_0_18 rfl (kdHo ho) rfl dX0_goesToAndFro_17 ?_
    refine ev_icmp_ne (tgt := 30) dX0_goesToAndFro_20 rfl (fun c4 => ?_) (fun c4 => ?_)
    · have h5 := h2.1 c4
      refine ev_iconst (v := (-1)) dX0_goesToAndFro_30 rfl ?_
      exact ev_ireturn dX0_goesToAndFro_31 rfl True.intro rfl rfl ⟨rfl, h5⟩
    · have h6 := h2.2 c4
      refine ev_aload_n dX0_goesToAndFro_23 0 rfl (nzHo ho) ?_
      refine ev_getI' (v := (μ o 1)) fl_0_15 rfl (kdHo ho) rfl dX0_goesToAndFro_24 ?_
      refine ev_goto (tgt := 31) dX0_goesToAndFro_27 rfl ?_
      exact ev_ireturn dX0_goesToAndFro_31 rfl True.intro rfl rfl ⟨rfl, h6⟩
  · have h3 := h.2 c1
    refine ev_aload_n dX0_goesToAndFro_8 0 rfl (nzHo ho) ?_
    refine ev_getI' (v := (μ o 2)) fl_0_18 rfl (kdHo ho) rfl dX0_goesToAndFro_9 ?_
    refine ev_goto (tgt := 31) dX0_goesToAndFro_12 rfl ?_
    exact ev_ireturn dX0_goesToAndFro_31 rfl True.intro rfl rfl ⟨rfl, h3⟩
theorem ct_X0_goesToAndFro {G : GW} (o : Nat) (ho : isHo o) (x1 : Int32) (μ : Mem) : Ev2 G mX0_goesToAndFro 1 0 [(0, .ref o), (1, .int x1)] [] μ (fun v μ' => v = some (.int (toFro (μ o 1) (μ o 2) x1)) ∧ μ' = μ) := by
  refine sg_X0_goesToAndFro_0 ho ?_
  repeat' (first | intro _ | apply And.intro)
  all_goals simp_all [toFro, bi, ← Int32.not_lt]
theorem sg_X0_goesFrom_0 {G : GW} {K : Option Value → Mem → Prop} {μ : Mem} {o : Nat} {x1 : Int32} (ho : isHo o) (h : ((μ o 0) = 1 → K (some (.int (toFro (μ o 1) (μ o 2) x1))) μ) ∧ ((μ o 0) = 2 → ((¬ x1 = (μ o 1)) → K (some (.int (-1))) μ) ∧ ((x1 = (μ o 1)) → K (some (.int (μ o 2))) μ)) ∧ ((μ o 0) = 3 → ((x1 = (μ o 1)) → K (some (.int (((toFro (μ o 1) (μ o 2) x1) + 1) - ((toFro (μ o 1) (μ o 2) x1) + 1) / 7 * 7))) μ) ∧ ((¬ (x1 = (μ o 1))) → ((¬ x1 = (μ o 2)) → K (some (.int (-1))) μ) ∧ ((x1 = (μ o 2)) → K (some (.int (((toFro (μ o 1) (μ o 2) x1) + 1) - ((toFro (μ o 1) (μ o 2) x1) + 1) / 7 * 7))) μ))) ∧ ((μ o 0) = 4 → ((¬ x1 = (μ o 1)) → K (some (.int (-1))) μ) ∧ ((x1 = (μ o 1)) → K (some (.int (μ o 2))) μ)) ∧ ((μ o 0) = 5 → ((¬ x1 = (μ o 1)) → K (some (.int (-1))) μ) ∧ ((x1 = (μ o 1)) → K (some (.int ((μ o 4) - (μ o 4) / 7 * 7))) μ)) ∧ (¬ (μ o 0) = 1 → ¬ (μ o 0) = 2 → ¬ (μ o 0) = 3 → ¬ (μ o 0) = 4 → ¬ (μ o 0) = 5 → ((¬ x1 = (μ o 1)) → K (some (.int (-1))) μ) ∧ ((x1 = (μ o 1)) → K (some (.int (μ o 2))) μ))) : Ev2 G mX0_goesFrom 2 0 [(0, .ref o), (1, .int x1)] [] μ K := by
  refine ev_aload_n dX0_goesFrom_0 0 rfl (nzHo ho) ?_
  refine ev_getI' (v := (μ o 0)) fl_0_9 rfl (kdHo ho) rfl dX0_goesFrom_1 ?_
  rcases Decidable.em ((μ o 0) = 1) with c1 | c1
  · have h2 := h.1 c1
    refine ev_tabIn (off := 36) (tgt := 40) 1 dX0_goesFrom_4 c1 (by decide) ?_
    refine ev_aload_n dX0_goesFrom_40 0 rfl (nzHo ho) ?_
    refine ev_iload_n dX0_goesFrom_41 1 rfl ?_
    refine e2_callV (w := .int (toFro (μ o 1) (μ o 2) x1)) (μ1 := μ) (a := o) (as := [.int x1]) (st := []) ok_X0_goesToAndFro vi_X0_goesToAndFro ml_0_43 hcl_0 (kdHo ho) dX0_goesFrom_42 rfl rfl (Nat.le_of_ble_eq_true rfl) (Nat.le_of_ble_eq_true rfl) (by decide) (ct_X0_goesToAndFro o ho (x1) μ) ?_
    exact ev_ireturn dX0_goesFrom_45 rfl True.intro rfl rfl ⟨rfl, h2⟩
  · have h3 := h.2
    rcases Decidable.em ((μ o 0) = 2) with c4 | c4
    · have h5 := h3.1 c4
      refine ev_tabIn (off := 93) (tgt := 97) 2 dX0_goesFrom_4 c4 (by decide) ?_
      refine ev_iload_n dX0_goesFrom_97 1 rfl ?_
      refine ev_aload_n dX0_goesFrom_98 0 rfl (nzHo ho) ?_
      refine ev_getI' (v := (μ o 1)) fl_0_15 rfl (kdHo ho) rfl dX0_goesFrom_99 ?_
      refine ev_icmp_ne (tgt := 112) dX0_goesFrom_102 rfl (fun c7 => ?_) (fun c7 => ?_)
      · have h8 := h5.1 c7
        refine ev_iconst (v := (-1)) dX0_goesFrom_112 rfl ?_
        exact ev_ireturn dX0_goesFrom_113 rfl True.intro rfl rfl ⟨rfl, h8⟩
      · have h9 := h5.2 c7
        refine ev_aload_n dX0_goesFrom_105 0 rfl (nzHo ho) ?_
        refine ev_getI' (v := (μ o 2)) fl_0_18 rfl (kdHo ho) rfl dX0_goesFrom_106 ?_
        refine ev_goto (tgt := 113) dX0_goesFrom_109 rfl ?_
        exact ev_ireturn dX0_goesFrom_113 rfl True.intro rfl rfl ⟨rfl, h9⟩
    · have h6 := h3.2
      rcases Decidable.em ((μ o 0) = 3) with c10 | c10
      · have h11 := h6.1 c10
        refine ev_tabIn (off := 42) (tgt := 46) 3 dX0_goesFrom_4 c10 (by decide) ?_
        refine ev_iload_n dX0_goesFrom_46 1 rfl ?_
        refine ev_aload_n dX0_goesFrom_47 0 rfl (nzHo ho) ?_
        refine ev_getI' (v := (μ o 1)) fl_0_15 rfl (kdHo ho) rfl dX0_goesFrom_48 ?_
        refine ev_icmp_eq (tgt := 62) dX0_goesFrom_51 rfl (fun c13 => ?_) (fun c13 => ?_)
        · have h14 := h11.1 c13
          refine ev_aload_n dX0_goesFrom_62 0 rfl (nzHo ho) ?_
          refine ev_iload_n dX0_goesFrom_63 1 rfl ?_
          refine e2_callV (w := .int (toFro (μ o 1) (μ o 2) x1)) (μ1 := μ) (a := o) (as := [.int x1]) (st := []) ok_X0_goesToAndFro vi_X0_goesToAndFro ml_0_43 hcl_0 (kdHo ho) dX0_goesFrom_64 rfl rfl (Nat.le_of_ble_eq_true rfl) (Nat.le_of_ble_eq_true rfl) (by decide) (ct_X0_goesToAndFro o ho (x1) μ) ?_
          refine ev_iconst (v := 1) dX0_goesFrom_67 rfl ?_
          refine ev_iadd dX0_goesFrom_68 ?_
          refine ev_bipush (v := 7) dX0_goesFrom_69 rfl ?_
          refine ev_irem dX0_goesFrom_71 (by decide) ?_
          refine ev_goto (tgt := 76) dX0_goesFrom_72 rfl ?_
          exact ev_ireturn dX0_goesFrom_76 rfl True.intro rfl rfl ⟨rfl, h14⟩
        · have h15 := h11.2 c13
          refine ev_iload_n dX0_goesFrom_54 1 rfl ?_
          refine ev_aload_n dX0_goesFrom_55 0 rfl (nzHo ho) ?_
          refine ev_getI' (v := (μ o 2)) fl_0_18 rfl (kdHo ho) rfl dX0_goesFrom_56 ?_
          refine ev_icmp_ne (tgt := 75) dX0_goesFrom_59 rfl (fun c16 => ?_) (fun c16 => ?_)
          · have h17 := h15.1 c16
            refine ev_iconst (v := (-1)) dX0_goesFrom_75 rfl ?_
            exact ev_ireturn dX0_goesFrom_76 rfl True.intro rfl rfl ⟨rfl, h17⟩
          · have h18 := h15.2 c16
            refine ev_aload_n dX0_goesFrom_62 0 rfl (nzHo ho) ?_
            refine ev_iload_n dX0_goesFrom_63 1 rfl ?_
            refine e2_callV (w := .int (toFro (μ o 1) (μ o 2) x1)) (μ1 := μ) (a := o) (as := [.int x1]) (st := []) ok_X0_goesToAndFro vi_X0_goesToAndFro ml_0_43 hcl_0 (kdHo ho) dX0_goesFrom_64 rfl rfl (Nat.le_of_ble_eq_true rfl) (Nat.le_of_ble_eq_true rfl) (by decide) (ct_X0_goesToAndFro o ho (x1) μ) ?_
            refine ev_iconst (v := 1) dX0_goesFrom_67 rfl ?_
            refine ev_iadd dX0_goesFrom_68 ?_
            refine ev_bipush (v := 7) dX0_goesFrom_69 rfl ?_
            refine ev_irem dX0_goesFrom_71 (by decide) ?_
            refine ev_goto (tgt := 76) dX0_goesFrom_72 rfl ?_
            exact ev_ireturn dX0_goesFrom_76 rfl True.intro rfl rfl ⟨rfl, h18⟩
      · have h12 := h6.2
        rcases Decidable.em ((μ o 0) = 4) with c19 | c19
        · have h20 := h12.1 c19
          refine ev_tabIn (off := 93) (tgt := 97) 4 dX0_goesFrom_4 c19 (by decide) ?_
          refine ev_iload_n dX0_goesFrom_97 1 rfl ?_
          refine ev_aload_n dX0_goesFrom_98 0 rfl (nzHo ho) ?_
          refine ev_getI' (v := (μ o 1)) fl_0_15 rfl (kdHo ho) rfl dX0_goesFrom_99 ?_
          refine ev_icmp_ne (tgt := 112) dX0_goesFrom_102 rfl (fun c22 => ?_) (fun c22 => ?_)
          · have h23 := h20.1 c22
            refine ev_iconst (v := (-1)) dX0_goesFrom_112 rfl ?_
            exact ev_ireturn dX0_goesFrom_113 rfl True.intro rfl rfl ⟨rfl, h23⟩
          · have h24 := h20.2 c22
            refine ev_aload_n dX0_goesFrom_105 0 rfl (nzHo ho) ?_
            refine ev_getI' (v := (μ o 2)) fl_0_18 rfl (kdHo ho) rfl dX0_goesFrom_106 ?_
            refine ev_goto (tgt := 113) dX0_goesFrom_109 rfl ?_
            exact ev_ireturn dX0_goesFrom_113 rfl True.intro rfl rfl ⟨rfl, h24⟩
        · have h21 := h12.2
          rcases Decidable.em ((μ o 0) = 5) with c25 | c25
          · have h26 := h21.1 c25
            refine ev_tabIn (off := 73) (tgt := 77) 5 dX0_goesFrom_4 c25 (by decide) ?_
            refine ev_iload_n dX0_goesFrom_77 1 rfl ?_
            refine ev_aload_n dX0_goesFrom_78 0 rfl (nzHo ho) ?_
            refine ev_getI' (v := (μ o 1)) fl_0_15 rfl (kdHo ho) rfl dX0_goesFrom_79 ?_
            refine ev_icmp_ne (tgt := 95) dX0_goesFrom_82 rfl (fun c28 => ?_) (fun c28 => ?_)
            · have h29 := h26.1 c28
              refine ev_iconst (v := (-1)) dX0_goesFrom_95 rfl ?_
              exact ev_ireturn dX0_goesFrom_96 rfl True.intro rfl rfl ⟨rfl, h29⟩
            · have h30 := h26.2 c28
              refine ev_aload_n dX0_goesFrom_85 0 rfl (nzHo ho) ?_
              refine ev_getI' (v := (μ o 4)) fl_0_24 rfl (kdHo ho) rfl dX0_goesFrom_86 ?_
              refine ev_bipush (v := 7) dX0_goesFrom_89 rfl ?_
              refine ev_irem dX0_goesFrom_91 (by decide) ?_
              refine ev_goto (tgt := 96) dX0_goesFrom_92 rfl ?_
              exact ev_ireturn dX0_goesFrom_96 rfl True.intro rfl rfl ⟨rfl, h30⟩
          · have h27 := h21.2
            have tc1 := tz_ne (z := 1) c1 (by decide)
            have tc4 := tz_ne (z := 2) c4 (by decide)
            have tc10 := tz_ne (z := 3) c10 (by decide)
            have tc19 := tz_ne (z := 4) c19 (by decide)
            have tc25 := tz_ne (z := 5) c25 (by decide)
            have h31 := h27 c1 c4 c10 c19 c25
            refine ev_tabOut (tgt := 97) dX0_goesFrom_4 (by omega) rfl ?_
            refine ev_iload_n dX0_goesFrom_97 1 rfl ?_
            refine ev_aload_n dX0_goesFrom_98 0 rfl (nzHo ho) ?_
            refine ev_getI' (v := (μ o 1)) fl_0_15 rfl (kdHo ho) rfl dX0_goesFrom_99 ?_
            refine ev_icmp_ne (tgt := 112) dX0_goesFrom_102 rfl (fun c32 => ?_) (fun c32 => ?_)
            · have h33 := h31.1 c32
              refine ev_iconst (v := (-1)) dX0_goesFrom_112 rfl ?_
              exact ev_ireturn dX0_goesFrom_113 rfl True.intro rfl rfl ⟨rfl, h33⟩
            · have h34 := h31.2 c32
              refine ev_aload_n dX0_goesFrom_105 0 rfl (nzHo ho) ?_
              refine ev_getI' (v := (μ o 2)) fl_0_18 rfl (kdHo ho) rfl dX0_goesFrom_106 ?_
              refine ev_goto (tgt := 113) dX0_goesFrom_109 rfl ?_
              exact ev_ireturn dX0_goesFrom_113 rfl True.intro rfl rfl ⟨rfl, h34⟩
theorem ct_X0_goesFrom {G : GW} (o : Nat) (ho : isHo o) (x1 : Int32) (μ : Mem) : Ev2 G mX0_goesFrom 2 0 [(0, .ref o), (1, .int x1)] [] μ (fun v μ' => v = some (.int (goesF (μ o 0) (μ o 1) (μ o 2) (μ o 4) x1)) ∧ μ' = μ) := by
  refine sg_X0_goesFrom_0 ho ?_
  repeat' (first | intro _ | apply And.intro)
  all_goals simp_all [goesF, irem, bi, ← Int32.not_lt]
theorem sg_X0_out_0 {G : GW} {K : Option Value → Mem → Prop} {μ : Mem} {o : Nat} (ho : isHo o) (h : ((μ o 0) = 2 → K (some (.int ((μ o 6) + (μ o 4)))) μ) ∧ ((μ o 0) = 3 → K (some (.int (μ o 6))) μ) ∧ ((μ o 0) = 4 → K (some (.int ((μ o 6) + (μ o 4)))) μ) ∧ ((μ o 0) = 5 → K (some (.int (imax 1 ((μ o 6) / 2)))) μ) ∧ (¬ (μ o 0) = 2 → ¬ (μ o 0) = 3 → ¬ (μ o 0) = 4 → ¬ (μ o 0) = 5 → K (some (.int (μ o 6))) μ)) : Ev2 G mX0_out 2 0 [(0, .ref o)] [] μ K := by
  refine ev_aload_n dX0_out_0 0 rfl (nzHo ho) ?_
  refine ev_getI' (v := (μ o 0)) fl_0_9 rfl (kdHo ho) rfl dX0_out_1 ?_
  rcases Decidable.em ((μ o 0) = 2) with c1 | c1
  · have h2 := h.1 c1
    refine ev_tabIn (off := 32) (tgt := 36) 2 dX0_out_4 c1 (by decide) ?_
    refine ev_aload_n dX0_out_36 0 rfl (nzHo ho) ?_
    refine ev_getI' (v := (μ o 6)) fl_0_30 rfl (kdHo ho) rfl dX0_out_37 ?_
    refine ev_aload_n dX0_out_40 0 rfl (nzHo ho) ?_
    refine ev_getI' (v := (μ o 4)) fl_0_24 rfl (kdHo ho) rfl dX0_out_41 ?_
    refine ev_iadd dX0_out_44 ?_
    exact ev_ireturn dX0_out_45 rfl True.intro rfl rfl ⟨rfl, h2⟩
  · have h3 := h.2
    rcases Decidable.em ((μ o 0) = 3) with c4 | c4
    · have h5 := h3.1 c4
      refine ev_tabIn (off := 53) (tgt := 57) 3 dX0_out_4 c4 (by decide) ?_
      refine ev_aload_n dX0_out_57 0 rfl (nzHo ho) ?_
      refine ev_getI' (v := (μ o 6)) fl_0_30 rfl (kdHo ho) rfl dX0_out_58 ?_
      exact ev_ireturn dX0_out_61 rfl True.intro rfl rfl ⟨rfl, h5⟩
    · have h6 := h3.2
      rcases Decidable.em ((μ o 0) = 4) with c7 | c7
      · have h8 := h6.1 c7
        refine ev_tabIn (off := 32) (tgt := 36) 4 dX0_out_4 c7 (by decide) ?_
        refine ev_aload_n dX0_out_36 0 rfl (nzHo ho) ?_
        refine ev_getI' (v := (μ o 6)) fl_0_30 rfl (kdHo ho) rfl dX0_out_37 ?_
        refine ev_aload_n dX0_out_40 0 rfl (nzHo ho) ?_
        refine ev_getI' (v := (μ o 4)) fl_0_24 rfl (kdHo ho) rfl dX0_out_41 ?_
        refine ev_iadd dX0_out_44 ?_
        exact ev_ireturn dX0_out_45 rfl True.intro rfl rfl ⟨rfl, h8⟩
      · have h9 := h6.2
        rcases Decidable.em ((μ o 0) = 5) with c10 | c10
        · have h11 := h9.1 c10
          refine ev_tabIn (off := 42) (tgt := 46) 5 dX0_out_4 c10 (by decide) ?_
          refine ev_iconst (v := 1) dX0_out_46 rfl ?_
          refine ev_aload_n dX0_out_47 0 rfl (nzHo ho) ?_
          refine ev_getI' (v := (μ o 6)) fl_0_30 rfl (kdHo ho) rfl dX0_out_48 ?_
          refine ev_iconst (v := 2) dX0_out_51 rfl ?_
          refine ev_idiv dX0_out_52 (by decide) ?_
          refine ev_max ml_0_47 dX0_out_53 (Nat.le_of_ble_eq_true rfl) (by decide) ⟨Nat.le_refl _, Nat.le_refl _⟩ ?_
          exact ev_ireturn dX0_out_56 rfl True.intro rfl rfl ⟨rfl, h11⟩
        · have h12 := h9.2
          have tc1 := tz_ne (z := 2) c1 (by decide)
          have tc4 := tz_ne (z := 3) c4 (by decide)
          have tc7 := tz_ne (z := 4) c7 (by decide)
          have tc10 := tz_ne (z := 5) c10 (by decide)
          have h13 := h12 c1 c4 c7 c10
          refine ev_tabOut (tgt := 57) dX0_out_4 (by omega) rfl ?_
          refine ev_aload_n dX0_out_57 0 rfl (nzHo ho) ?_
          refine ev_getI' (v := (μ o 6)) fl_0_30 rfl (kdHo ho) rfl dX0_out_58 ?_
          exact ev_ireturn dX0_out_61 rfl True.intro rfl rfl ⟨rfl, h13⟩
theorem ct_X0_out {G : GW} (o : Nat) (ho : isHo o) (μ : Mem) : Ev2 G mX0_out 2 0 [(0, .ref o)] [] μ (fun v μ' => v = some (.int (outF (μ o 0) (μ o 4) (μ o 6))) ∧ μ' = μ) := by
  refine sg_X0_out_0 ho ?_
  repeat' (first | intro _ | apply And.intro)
  all_goals simp_all [outF, bi, ← Int32.not_lt]
theorem sg_X0_home_0 {G : GW} {K : Option Value → Mem → Prop} {μ : Mem} {o : Nat} (ho : isHo o) (h : ((¬ (μ o 0) = 4) → K (some (.int (μ o 7))) μ) ∧ (((μ o 0) = 4) → K (some (.int ((2 * (μ o 7)) + (μ o 4)))) μ)) : Ev2 G mX0_home 1 0 [(0, .ref o)] [] μ K := by
  refine ev_aload_n dX0_home_0 0 rfl (nzHo ho) ?_
  refine ev_getI' (v := (μ o 0)) fl_0_9 rfl (kdHo ho) rfl dX0_home_1 ?_
  refine ev_iconst (v := 4) dX0_home_4 rfl ?_
  refine ev_icmp_ne (tgt := 22) dX0_home_5 rfl (fun c1 => ?_) (fun c1 => ?_)
  · have h2 := h.1 c1
    refine ev_aload_n dX0_home_22 0 rfl (nzHo ho) ?_
    refine ev_getI' (v := (μ o 7)) fl_0_33 rfl (kdHo ho) rfl dX0_home_23 ?_
    exact ev_ireturn dX0_home_26 rfl True.intro rfl rfl ⟨rfl, h2⟩
  · have h3 := h.2 c1
    refine ev_iconst (v := 2) dX0_home_8 rfl ?_
    refine ev_aload_n dX0_home_9 0 rfl (nzHo ho) ?_
    refine ev_getI' (v := (μ o 7)) fl_0_33 rfl (kdHo ho) rfl dX0_home_10 ?_
    refine ev_imul dX0_home_13 ?_
    refine ev_aload_n dX0_home_14 0 rfl (nzHo ho) ?_
    refine ev_getI' (v := (μ o 4)) fl_0_24 rfl (kdHo ho) rfl dX0_home_15 ?_
    refine ev_iadd dX0_home_18 ?_
    refine ev_goto (tgt := 26) dX0_home_19 rfl ?_
    exact ev_ireturn dX0_home_26 rfl True.intro rfl rfl ⟨rfl, h3⟩
theorem ct_X0_home {G : GW} (o : Nat) (ho : isHo o) (μ : Mem) : Ev2 G mX0_home 1 0 [(0, .ref o)] [] μ (fun v μ' => v = some (.int (homeF (μ o 0) (μ o 4) (μ o 7))) ∧ μ' = μ) := by
  refine sg_X0_home_0 ho ?_
  repeat' (first | intro _ | apply And.intro)
  all_goals simp_all [homeF, bi, ← Int32.not_lt]
theorem sg_X0_arrives_0 {G : GW} {K : Option Value → Mem → Prop} {μ : Mem} {o : Nat} {x1 : Int32} (ho : isHo o) (h : K (some (.int ((imax x1 (μ o 5)) + (outF (μ o 0) (μ o 4) (μ o 6))))) μ) : Ev2 G mX0_arrives 3 0 [(0, .ref o), (1, .int x1)] [] μ K := by
  refine ev_iload_n dX0_arrives_0 1 rfl ?_
  refine ev_aload_n dX0_arrives_1 0 rfl (nzHo ho) ?_
  refine ev_getI' (v := (μ o 5)) fl_0_27 rfl (kdHo ho) rfl dX0_arrives_2 ?_
  refine ev_max ml_0_47 dX0_arrives_5 (Nat.le_of_ble_eq_true rfl) (by decide) ⟨Nat.le_refl _, Nat.le_refl _⟩ ?_
  refine ev_aload_n dX0_arrives_8 0 rfl (nzHo ho) ?_
  refine e2_callV (w := .int (outF (μ o 0) (μ o 4) (μ o 6))) (μ1 := μ) (a := o) (as := []) (st := [.int (imax x1 (μ o 5))]) ok_X0_out vi_X0_out ml_0_53 hcl_0 (kdHo ho) dX0_arrives_9 rfl rfl (Nat.le_of_ble_eq_true rfl) (Nat.le_of_ble_eq_true rfl) (by decide) (ct_X0_out o ho μ) ?_
  refine ev_iadd dX0_arrives_12 ?_
  exact ev_ireturn dX0_arrives_13 rfl True.intro rfl rfl ⟨rfl, h⟩
theorem ct_X0_arrives {G : GW} (o : Nat) (ho : isHo o) (x1 : Int32) (μ : Mem) : Ev2 G mX0_arrives 3 0 [(0, .ref o), (1, .int x1)] [] μ (fun v μ' => v = some (.int (imax x1 (μ o 5) + outF (μ o 0) (μ o 4) (μ o 6))) ∧ μ' = μ) := sg_X0_arrives_0 ho ⟨rfl, rfl⟩
theorem sg_X0_named_0 {G : GW} {K : Option Value → Mem → Prop} {μ : Mem} {o : Nat} {x1 x2 : Int32} (ho : isHo o) (h : (x1 = 6 → K (some (.int (μ o 3))) μ) ∧ (x1 = 7 → K (some (.int (μ o 4))) μ) ∧ (x1 = 8 → K (some (.int (μ o 1))) μ) ∧ (x1 = 9 → K (some (.int (μ o 2))) μ) ∧ (x1 = 10 → K (some (.int (μ o 5))) μ) ∧ (¬ x1 = 6 → ¬ x1 = 7 → ¬ x1 = 8 → ¬ x1 = 9 → ¬ x1 = 10 → K (some (.int x2)) μ)) : Ev2 G mX0_named 1 0 [(0, .ref o), (1, .int x1), (2, .int x2)] [] μ K := by
  refine ev_iload_n dX0_named_0 1 rfl ?_
  rcases Decidable.em (x1 = 6) with c1 | c1
  · have h2 := h.1 c1
    refine ev_tabIn (off := 35) (tgt := 36) 6 dX0_named_1 c1 (by decide) ?_
    refine ev_aload_n dX0_named_36 0 rfl (nzHo ho) ?_
    refine ev_getI' (v := (μ o 3)) fl_0_21 rfl (kdHo ho) rfl dX0_named_37 ?_
    exact ev_ireturn dX0_named_40 rfl True.intro rfl rfl ⟨rfl, h2⟩
  · have h3 := h.2
    rcases Decidable.em (x1 = 7) with c4 | c4
    · have h5 := h3.1 c4
      refine ev_tabIn (off := 40) (tgt := 41) 7 dX0_named_1 c4 (by decide) ?_
      refine ev_aload_n dX0_named_41 0 rfl (nzHo ho) ?_
      refine ev_getI' (v := (μ o 4)) fl_0_24 rfl (kdHo ho) rfl dX0_named_42 ?_
      exact ev_ireturn dX0_named_45 rfl True.intro rfl rfl ⟨rfl, h5⟩
    · have h6 := h3.2
      rcases Decidable.em (x1 = 8) with c7 | c7
      · have h8 := h6.1 c7
        refine ev_tabIn (off := 45) (tgt := 46) 8 dX0_named_1 c7 (by decide) ?_
        refine ev_aload_n dX0_named_46 0 rfl (nzHo ho) ?_
        refine ev_getI' (v := (μ o 1)) fl_0_15 rfl (kdHo ho) rfl dX0_named_47 ?_
        exact ev_ireturn dX0_named_50 rfl True.intro rfl rfl ⟨rfl, h8⟩
      · have h9 := h6.2
        rcases Decidable.em (x1 = 9) with c10 | c10
        · have h11 := h9.1 c10
          refine ev_tabIn (off := 50) (tgt := 51) 9 dX0_named_1 c10 (by decide) ?_
          refine ev_aload_n dX0_named_51 0 rfl (nzHo ho) ?_
          refine ev_getI' (v := (μ o 2)) fl_0_18 rfl (kdHo ho) rfl dX0_named_52 ?_
          exact ev_ireturn dX0_named_55 rfl True.intro rfl rfl ⟨rfl, h11⟩
        · have h12 := h9.2
          rcases Decidable.em (x1 = 10) with c13 | c13
          · have h14 := h12.1 c13
            refine ev_tabIn (off := 55) (tgt := 56) 10 dX0_named_1 c13 (by decide) ?_
            refine ev_aload_n dX0_named_56 0 rfl (nzHo ho) ?_
            refine ev_getI' (v := (μ o 5)) fl_0_27 rfl (kdHo ho) rfl dX0_named_57 ?_
            exact ev_ireturn dX0_named_60 rfl True.intro rfl rfl ⟨rfl, h14⟩
          · have h15 := h12.2
            have tc1 := tz_ne (z := 6) c1 (by decide)
            have tc4 := tz_ne (z := 7) c4 (by decide)
            have tc7 := tz_ne (z := 8) c7 (by decide)
            have tc10 := tz_ne (z := 9) c10 (by decide)
            have tc13 := tz_ne (z := 10) c13 (by decide)
            have h16 := h15 c1 c4 c7 c10 c13
            refine ev_tabOut (tgt := 61) dX0_named_1 (by omega) rfl ?_
            refine ev_iload_n dX0_named_61 2 rfl ?_
            exact ev_ireturn dX0_named_62 rfl True.intro rfl rfl ⟨rfl, h16⟩
theorem ct_X0_named {G : GW} (o : Nat) (ho : isHo o) (x1 x2 : Int32) (μ : Mem) : Ev2 G mX0_named 1 0 [(0, .ref o), (1, .int x1), (2, .int x2)] [] μ (fun v μ' => v = some (.int (namedF μ o x1 x2)) ∧ μ' = μ) := by
  refine sg_X0_named_0 ho ?_
  repeat' (first | intro _ | apply And.intro)
  all_goals simp_all [namedF, bi, ← Int32.not_lt]
theorem sg_X0_become_0 {G : GW} {K : Option Value → Mem → Prop} {μ : Mem} {o : Nat} {x1 x2 x3 x4 x5 : Int32} (ho : isHo o) (h : K none (mset (mset (mset (mset (mset (mset μ o 0 x1) o 1 x2) o 2 x3) o 3 x4) o 4 x5) o 5 0)) : Ev2 G mX0_become 1 0 [(0, .ref o), (1, .int x1), (2, .int x2), (3, .int x3), (4, .int x4), (5, .int x5)] [] μ K := by
  refine ev_aload_n dX0_become_0 0 rfl (nzHo ho) ?_
  refine ev_iload_n dX0_become_1 1 rfl ?_
  refine ev_putI fl_0_9 ⟨rfl, rfl, rfl⟩ (fun r hr => by cases hr; rfl) (kdHo ho) dX0_become_2 ?_
  refine ev_aload_n dX0_become_5 0 rfl (nzHo ho) ?_
  refine ev_iload_n dX0_become_6 2 rfl ?_
  refine ev_putI fl_0_15 ⟨rfl, rfl, rfl⟩ (fun r hr => by cases hr; rfl) (kdHo ho) dX0_become_7 ?_
  refine ev_aload_n dX0_become_10 0 rfl (nzHo ho) ?_
  refine ev_iload_n dX0_become_11 3 rfl ?_
  refine ev_putI fl_0_18 ⟨rfl, rfl, rfl⟩ (fun r hr => by cases hr; rfl) (kdHo ho) dX0_become_12 ?_
  refine ev_aload_n dX0_become_15 0 rfl (nzHo ho) ?_
  refine ev_iload dX0_become_16 4 rfl ?_
  refine ev_putI fl_0_21 ⟨rfl, rfl, rfl⟩ (fun r hr => by cases hr; rfl) (kdHo ho) dX0_become_18 ?_
  refine ev_aload_n dX0_become_21 0 rfl (nzHo ho) ?_
  refine ev_iload dX0_become_22 5 rfl ?_
  refine ev_putI fl_0_24 ⟨rfl, rfl, rfl⟩ (fun r hr => by cases hr; rfl) (kdHo ho) dX0_become_24 ?_
  refine ev_aload_n dX0_become_27 0 rfl (nzHo ho) ?_
  refine ev_iconst (v := 0) dX0_become_28 rfl ?_
  refine ev_putI fl_0_27 ⟨rfl, rfl, rfl⟩ (fun r hr => by cases hr; rfl) (kdHo ho) dX0_become_29 ?_
  exact ev_return dX0_become_32 rfl rfl rfl ⟨rfl, h⟩
theorem ct_X0_become {G : GW} (o : Nat) (ho : isHo o) (x1 x2 x3 x4 x5 : Int32) (μ : Mem) : Ev2 G mX0_become 1 0 [(0, .ref o), (1, .int x1), (2, .int x2), (3, .int x3), (4, .int x4), (5, .int x5)] [] μ (fun v μ' => v = none ∧ μ' = becomeM μ o x1 x2 x3 x4 x5) := sg_X0_become_0 ho ⟨rfl, rfl⟩
theorem sg_X0_isOne_0 {G : GW} {K : Option Value → Mem → Prop} {μ : Mem} {o : Nat} {x1 : Int32} (ho : isHo o) (h : Ev2 G mX0_isOne 1 7 [(1, .int x1), (2, .int (μ o 0)), (3, .int 0)] [] μ K) : Ev2 G mX0_isOne 1 0 [(0, .ref o), (1, .int x1)] [] μ K := by
  refine ev_aload_n dX0_isOne_0 0 rfl (nzHo ho) ?_
  refine ev_getI' (v := (μ o 0)) fl_0_9 rfl (kdHo ho) rfl dX0_isOne_1 ?_
  refine ev_istore_n (lv' := [(0, .ref o), (1, .int x1), (2, .int (μ o 0))]) dX0_isOne_4 (by decide) [1, 2, 0] rfl ?_
  refine ev_iconst (v := 0) dX0_isOne_5 rfl ?_
  refine ev_istore_n (lv' := [(0, .ref o), (1, .int x1), (2, .int (μ o 0)), (3, .int 0)]) dX0_isOne_6 (by decide) [1, 2, 3, 0] rfl ?_
  refine EvW.less [1, 2, 3] (lv' := [(1, .int x1), (2, .int (μ o 0)), (3, .int 0)]) rfl ?_
  exact h
theorem sg_X0_isOne_7 {G : GW} {K : Option Value → Mem → Prop} {μ : Mem} {x1 x2 x3 : Int32}  (h : ((6 ≤ x3) → ((¬ x2 = x1) → K (some (.int 0)) μ) ∧ ((x2 = x1) → K (some (.int 1)) μ)) ∧ ((¬ (6 ≤ x3)) → ((x2 = x1) → ((¬ x2 = x1) → K (some (.int 0)) μ) ∧ ((x2 = x1) → K (some (.int 1)) μ)) ∧ ((¬ (x2 = x1)) → ((x2 < 0) → ((¬ x2 = x1) → K (some (.int 0)) μ) ∧ ((x2 = x1) → K (some (.int 1)) μ)) ∧ ((¬ (x2 < 0)) → ((6 ≤ x2) → ((¬ x2 = x1) → K (some (.int 0)) μ) ∧ ((x2 = x1) → K (some (.int 1)) μ)) ∧ ((¬ (6 ≤ x2)) → (vp_in x2 6) ∧ Ev2 G mX0_isOne 1 7 [(1, .int x1), (2, .int (kaV x2.toNatClampNeg)), (3, .int (x3 + 1))] [] μ K))))) : Ev2 G mX0_isOne 1 7 [(1, .int x1), (2, .int x2), (3, .int x3)] [] μ K := by
  refine ev_iload_n dX0_isOne_7 2 rfl ?_
  refine ev_bipush (v := 6) dX0_isOne_8 rfl ?_
  refine ev_icmp_ge (tgt := 42) dX0_isOne_10 rfl (fun c1 => ?_) (fun c1 => ?_)
  · have h2 := h.1 c1
    refine ev_iload_n dX0_isOne_42 1 rfl ?_
    refine ev_iload_n dX0_isOne_43 0 rfl ?_
    refine ev_icmp_ne (tgt := 51) dX0_isOne_44 rfl (fun c4 => ?_) (fun c4 => ?_)
    · have h5 := h2.1 c4
      refine ev_iconst (v := 0) dX0_isOne_51 rfl ?_
      exact ev_ireturn dX0_isOne_52 rfl rfl rfl rfl ⟨rfl, h5⟩
    · have h6 := h2.2 c4
      refine ev_iconst (v := 1) dX0_isOne_47 rfl ?_
      refine ev_goto (tgt := 52) dX0_isOne_48 rfl ?_
      exact ev_ireturn dX0_isOne_52 rfl rfl rfl rfl ⟨rfl, h6⟩
  · have h3 := h.2 c1
    refine ev_iload_n dX0_isOne_13 1 rfl ?_
    refine ev_iload_n dX0_isOne_14 0 rfl ?_
    refine ev_icmp_eq (tgt := 42) dX0_isOne_15 rfl (fun c7 => ?_) (fun c7 => ?_)
    · have h8 := h3.1 c7
      refine ev_iload_n dX0_isOne_42 1 rfl ?_
      refine ev_iload_n dX0_isOne_43 0 rfl ?_
      refine ev_icmp_ne (tgt := 51) dX0_isOne_44 rfl (fun c10 => ?_) (fun c10 => ?_)
      · have h11 := h8.1 c10
        refine ev_iconst (v := 0) dX0_isOne_51 rfl ?_
        exact ev_ireturn dX0_isOne_52 rfl rfl rfl rfl ⟨rfl, h11⟩
      · have h12 := h8.2 c10
        refine ev_iconst (v := 1) dX0_isOne_47 rfl ?_
        refine ev_goto (tgt := 52) dX0_isOne_48 rfl ?_
        exact ev_ireturn dX0_isOne_52 rfl rfl rfl rfl ⟨rfl, h12⟩
    · have h9 := h3.2 c7
      refine ev_iload_n dX0_isOne_18 1 rfl ?_
      refine ev_if_lt (tgt := 42) dX0_isOne_19 rfl (fun c13 => ?_) (fun c13 => ?_)
      · have h14 := h9.1 c13
        refine ev_iload_n dX0_isOne_42 1 rfl ?_
        refine ev_iload_n dX0_isOne_43 0 rfl ?_
        refine ev_icmp_ne (tgt := 51) dX0_isOne_44 rfl (fun c16 => ?_) (fun c16 => ?_)
        · have h17 := h14.1 c16
          refine ev_iconst (v := 0) dX0_isOne_51 rfl ?_
          exact ev_ireturn dX0_isOne_52 rfl rfl rfl rfl ⟨rfl, h17⟩
        · have h18 := h14.2 c16
          refine ev_iconst (v := 1) dX0_isOne_47 rfl ?_
          refine ev_goto (tgt := 52) dX0_isOne_48 rfl ?_
          exact ev_ireturn dX0_isOne_52 rfl rfl rfl rfl ⟨rfl, h18⟩
      · have h15 := h9.2 c13
        refine ev_iload_n dX0_isOne_22 1 rfl ?_
        refine ev_getka rfl dX0_isOne_23 ?_
        refine ev_kalen dX0_isOne_26 ?_
        refine ev_icmp_ge (tgt := 42) dX0_isOne_27 rfl (fun c19 => ?_) (fun c19 => ?_)
        · have h20 := h15.1 c19
          refine ev_iload_n dX0_isOne_42 1 rfl ?_
          refine ev_iload_n dX0_isOne_43 0 rfl ?_
          refine ev_icmp_ne (tgt := 51) dX0_isOne_44 rfl (fun c22 => ?_) (fun c22 => ?_)
          · have h23 := h20.1 c22
            refine ev_iconst (v := 0) dX0_isOne_51 rfl ?_
            exact ev_ireturn dX0_isOne_52 rfl rfl rfl rfl ⟨rfl, h23⟩
          · have h24 := h20.2 c22
            refine ev_iconst (v := 1) dX0_isOne_47 rfl ?_
            refine ev_goto (tgt := 52) dX0_isOne_48 rfl ?_
            exact ev_ireturn dX0_isOne_52 rfl rfl rfl rfl ⟨rfl, h24⟩
        · have h21 := h15.2 c19
          refine ev_getka rfl dX0_isOne_30 ?_
          refine ev_iload_n dX0_isOne_33 1 rfl ?_
          have p25 := h21.1
          have h26 := h21.2
          refine ev_kaload p25 dX0_isOne_34 ?_
          refine ev_istore_n (lv' := [(1, .int x1), (2, .int (kaV x2.toNatClampNeg)), (3, .int x3)]) dX0_isOne_35 (by decide) [1, 0, 2] rfl ?_
          refine ev_iinc (v := (x3 + 1)) (lv' := [(1, .int x1), (2, .int (kaV x2.toNatClampNeg)), (3, .int (x3 + 1))]) dX0_isOne_36 2 rfl rfl (by decide) [1, 2, 0] rfl ?_
          refine ev_goto (tgt := 7) dX0_isOne_39 rfl ?_
          exact h26
theorem isOneF_done {n : Nat} {is w : Int32} (h : is = w ∨ is < 0 ∨ 6 ≤ is) : isOneF n is w = decide (is = w) := by
  cases n with
  | zero => rfl
  | succ n =>
    unfold isOneF
    by_cases e : is = w
    · simp [e]
    · simp only [e, if_false, decide_false, false_or] at h ⊢
      rw [if_pos h]
theorem lp_X0_isOne {G : GW} (w : Int32) (μ : Mem) : ∀ (n i : Nat) (is : Int32), i + n = 6 → Ev2 G mX0_isOne 1 7 [(1, .int w), (2, .int is), (3, .int (nI i))] [] μ (fun v μ' => v = some (.int (bi (isOneF n is w))) ∧ μ' = μ) := by
  intro n
  induction n with
  | zero =>
    intro i is hi
    obtain rfl : i = 6 := by omega
    refine sg_X0_isOne_7 ⟨fun _ => ?_, fun c => absurd (show (6 : Int32) ≤ nI 6 by decide) c⟩
    refine ⟨fun c => ⟨?_, rfl⟩, fun c => ⟨?_, rfl⟩⟩ <;> simp [isOneF, bi, c]
  | succ n ih =>
    intro i is hi
    refine sg_X0_isOne_7 ⟨fun c => absurd c (nI_ge (a := i) (b := 6) (by omega) (by omega)), fun _ => ?_⟩
    refine ⟨fun e => ⟨fun c => absurd e c, fun _ => ⟨?_, rfl⟩⟩, fun e => ⟨fun c => ⟨fun _ => ⟨?_, rfl⟩, fun c' => absurd c' e⟩, fun c => ⟨fun c2 => ⟨fun _ => ⟨?_, rfl⟩, fun c' => absurd c' e⟩, fun c2 => ⟨?_, ?_⟩⟩⟩⟩
    · rw [isOneF_done (Or.inl e)]
      simp [bi, e]
    · rw [isOneF_done (Or.inr (Or.inl c))]
      simp [bi, e]
    · rw [isOneF_done (Or.inr (Or.inr c2))]
      simp [bi, e]
    · rw [vp_in_iff]
      simp only [Int32.not_lt, Int32.not_le] at c c2
      exact ⟨Int32.le_iff_toInt_le.mp c, Int32.lt_iff_toInt_lt.mp c2⟩
    · have h := ih (i + 1) (kaV is.toNatClampNeg) (by omega)
      have e1 : isOneF (n + 1) is w = isOneF n (kaV is.toNatClampNeg) w := by
        rw [isOneF, if_neg e, if_neg (by simp only [c, c2, or_self, not_false_eq_true])]
      rw [e1, nI_1]
      exact h
theorem ct_X0_isOne {G : GW} (o : Nat) (ho : isHo o) (x1 : Int32) (μ : Mem) : Ev2 G mX0_isOne 1 0 [(0, .ref o), (1, .int x1)] [] μ (fun v μ' => v = some (.int (bi (isOneF 6 (μ o 0) x1))) ∧ μ' = μ) := sg_X0_isOne_0 ho (lp_X0_isOne x1 μ 6 0 (μ o 0) rfl)
