/-! ===== the constructors ===== -/
theorem kd_lt {n a k : Nat} {L : List (Nat × Nat)} {R : List (Nat × Nat × Nat)} {E : List (Nat × Nat × Int32)} (h : OKS n L R E) (hk : kdS L a = k + 1) : a < n := by
  have := (kdS_nz hk).2
  have := h.1
  omega
theorem ev_cast {G : GW} {M : MK} {d N Z pc : Nat} {lv : List (Nat × Value)} {st : List Value} {S : HS} {μ : Mem} {K : Option Value → HS → Mem → Prop} {x v : Int32} (h : x = v) (kk : EvW G M d N Z pc lv (.int v :: st) S μ K) : EvW G M d N Z pc lv (.int x :: st) S μ K := by
  rw [h]
  exact kk
theorem ct_X0_init {G : GW} (o n z : Nat) (L : List (Nat × Nat)) (R : List (Nat × Nat × Nat)) (E : List (Nat × Nat × Int32)) (h0 : OKS n L R E) (hk : kdS L o = 10) : EvW G mX0_init 1 n (z) 0 [(0, .ref o)] [] (SL z L R) (ML E) (fun v S' μ' => v = none ∧ S' = SL (z) (L) (R) ∧ μ' = ML ((o, 8, 0) :: (o, 7, 1) :: (o, 6, 1) :: (o, 5, 0) :: (o, 4, 0) :: (o, 3, 1) :: (o, 2, 1) :: (o, 1, 0) :: (o, 0, 0) :: E)) := by
  have hnz := (kdS_nz hk).1
  refine ev_aload_n dX0_init_0 0 rfl hnz ?_
  refine mk_objInit (k := 9) ml_0_3 hk dX0_init_1 (Nat.le_of_ble_eq_true rfl) (by decide) ?_
  refine ev_aload_n dX0_init_4 0 rfl hnz ?_
  refine ev_iconst (v := 0) dX0_init_5 rfl ?_
  refine mk_putI (ci := 0) fl_0_9 ⟨rfl, rfl, rfl⟩ (fun r hr => by cases hr; rfl) hk dX0_init_6 ?_
  have g1 := OKS.mm (a := o) (k := 0) (x := (0 : Int32)) (kd_lt h0 hk) h0
  refine ev_aload_n dX0_init_9 0 rfl hnz ?_
  refine ev_iconst (v := 0) dX0_init_10 rfl ?_
  refine mk_putI (ci := 0) fl_0_15 ⟨rfl, rfl, rfl⟩ (fun r hr => by cases hr; rfl) hk dX0_init_11 ?_
  have g2 := OKS.mm (a := o) (k := 1) (x := (0 : Int32)) (kd_lt g1 hk) g1
  refine ev_aload_n dX0_init_14 0 rfl hnz ?_
  refine ev_iconst (v := 1) dX0_init_15 rfl ?_
  refine mk_putI (ci := 0) fl_0_18 ⟨rfl, rfl, rfl⟩ (fun r hr => by cases hr; rfl) hk dX0_init_16 ?_
  have g3 := OKS.mm (a := o) (k := 2) (x := (1 : Int32)) (kd_lt g2 hk) g2
  refine ev_aload_n dX0_init_19 0 rfl hnz ?_
  refine ev_iconst (v := 1) dX0_init_20 rfl ?_
  refine mk_putI (ci := 0) fl_0_21 ⟨rfl, rfl, rfl⟩ (fun r hr => by cases hr; rfl) hk dX0_init_21 ?_
  have g4 := OKS.mm (a := o) (k := 3) (x := (1 : Int32)) (kd_lt g3 hk) g3
  refine ev_aload_n dX0_init_24 0 rfl hnz ?_
  refine ev_iconst (v := 0) dX0_init_25 rfl ?_
  refine mk_putI (ci := 0) fl_0_24 ⟨rfl, rfl, rfl⟩ (fun r hr => by cases hr; rfl) hk dX0_init_26 ?_
  have g5 := OKS.mm (a := o) (k := 4) (x := (0 : Int32)) (kd_lt g4 hk) g4
  refine ev_aload_n dX0_init_29 0 rfl hnz ?_
  refine ev_iconst (v := 0) dX0_init_30 rfl ?_
  refine mk_putI (ci := 0) fl_0_27 ⟨rfl, rfl, rfl⟩ (fun r hr => by cases hr; rfl) hk dX0_init_31 ?_
  have g6 := OKS.mm (a := o) (k := 5) (x := (0 : Int32)) (kd_lt g5 hk) g5
  refine ev_aload_n dX0_init_34 0 rfl hnz ?_
  refine ev_iconst (v := 1) dX0_init_35 rfl ?_
  refine mk_putI (ci := 0) fl_0_30 ⟨rfl, rfl, rfl⟩ (fun r hr => by cases hr; rfl) hk dX0_init_36 ?_
  have g7 := OKS.mm (a := o) (k := 6) (x := (1 : Int32)) (kd_lt g6 hk) g6
  refine ev_aload_n dX0_init_39 0 rfl hnz ?_
  refine ev_iconst (v := 1) dX0_init_40 rfl ?_
  refine mk_putI (ci := 0) fl_0_33 ⟨rfl, rfl, rfl⟩ (fun r hr => by cases hr; rfl) hk dX0_init_41 ?_
  have g8 := OKS.mm (a := o) (k := 7) (x := (1 : Int32)) (kd_lt g7 hk) g7
  refine ev_aload_n dX0_init_44 0 rfl hnz ?_
  refine ev_iconst (v := 0) dX0_init_45 rfl ?_
  refine mk_putI (ci := 0) fl_0_36 ⟨rfl, rfl, rfl⟩ (fun r hr => by cases hr; rfl) hk dX0_init_46 ?_
  have g9 := OKS.mm (a := o) (k := 8) (x := (0 : Int32)) (kd_lt g8 hk) g8
  exact mk_return dX0_init_49 rfl (g9).1 rfl rfl rfl
theorem ct_X5_init {G : GW} (o n z : Nat) (L : List (Nat × Nat)) (R : List (Nat × Nat × Nat)) (E : List (Nat × Nat × Int32)) (h0 : OKS n L R E) (hk : kdS L o = 15) : EvW G mX5_init 1 (n + 1) (z + 160) 0 [(0, .ref o)] [] (SL z L R) (ML E) (fun v S' μ' => v = none ∧ S' = SL (z + 160) (L ++ [(1, 160)]) ((o, 0, n) :: R) ∧ μ' = ML ((o, 4, 0) :: (o, 3, 0) :: (o, 2, 0) :: (o, 1, 0) :: E)) := by
  have hnz := (kdS_nz hk).1
  refine ev_aload_n dX5_init_0 0 rfl hnz ?_
  refine mk_objInit (k := 14) ml_5_3 hk dX5_init_1 (Nat.le_of_ble_eq_true rfl) (by decide) ?_
  refine ev_aload_n dX5_init_4 0 rfl hnz ?_
  refine ev_sipush (v := 160) dX5_init_5 rfl ?_
  refine mk_arr (k := 1) (nn := 160) (n := n) (n' := (n + 1)) h0 (Or.inl ⟨rfl, rfl⟩) ac_int ⟨by decide, rfl, by decide⟩ dX5_init_8 rfl (by omega) (by omega) (fun h1 => ?_)
  refine mk_putR (ci := 5) fl_5_9 rfl (fun r hr => by cases hr; exact ⟨rfl, rfl⟩) rfl (kd_old hk) (j := 0) (kd_last h0) dX5_init_10 ?_
  have g2 := OKS.rf (a := o) (k := 0) (r := n) (kd_lt h1 (kd_old hk)) h1
  refine ev_aload_n dX5_init_13 0 rfl hnz ?_
  refine ev_iconst (v := 0) dX5_init_14 rfl ?_
  refine mk_putI (ci := 5) fl_5_15 ⟨rfl, rfl, rfl⟩ (fun r hr => by cases hr; rfl) (kd_old hk) dX5_init_15 ?_
  have g3 := OKS.mm (a := o) (k := 1) (x := (0 : Int32)) (kd_lt g2 (kd_old hk)) g2
  refine ev_aload_n dX5_init_18 0 rfl hnz ?_
  refine ev_iconst (v := 0) dX5_init_19 rfl ?_
  refine mk_putI (ci := 5) fl_5_19 ⟨rfl, rfl, rfl⟩ (fun r hr => by cases hr; rfl) (kd_old hk) dX5_init_20 ?_
  have g4 := OKS.mm (a := o) (k := 2) (x := (0 : Int32)) (kd_lt g3 (kd_old hk)) g3
  refine ev_aload_n dX5_init_23 0 rfl hnz ?_
  refine ev_iconst (v := 0) dX5_init_24 rfl ?_
  refine mk_putI (ci := 5) fl_5_22 ⟨rfl, rfl, rfl⟩ (fun r hr => by cases hr; rfl) (kd_old hk) dX5_init_25 ?_
  have g5 := OKS.mm (a := o) (k := 3) (x := (0 : Int32)) (kd_lt g4 (kd_old hk)) g4
  refine ev_aload_n dX5_init_28 0 rfl hnz ?_
  refine ev_iconst (v := 0) dX5_init_29 rfl ?_
  refine mk_putI (ci := 5) fl_5_25 ⟨rfl, rfl, rfl⟩ (fun r hr => by cases hr; rfl) (kd_old hk) dX5_init_30 ?_
  have g6 := OKS.mm (a := o) (k := 4) (x := (0 : Int32)) (kd_lt g5 (kd_old hk)) g5
  exact mk_return dX5_init_33 rfl (g6).1 rfl rfl rfl
theorem ct_X3_init {G : GW} (o n z : Nat) (L : List (Nat × Nat)) (R : List (Nat × Nat × Nat)) (E : List (Nat × Nat × Int32)) (h0 : OKS n L R E) (hk : kdS L o = 13) : EvW G mX3_init 1 (n + 1 + 1 + 1 + 1 + 1) (z + 7 + 7 + 7 + 7 + 7) 0 [(0, .ref o)] [] (SL z L R) (ML E) (fun v S' μ' => v = none ∧ S' = SL (z + 7 + 7 + 7 + 7 + 7) (L ++ [(1, 7)] ++ [(1, 7)] ++ [(1, 7)] ++ [(2, 7)] ++ [(1, 7)]) ((o, 4, (n + 1 + 1 + 1 + 1)) :: (o, 3, (n + 1 + 1 + 1)) :: (o, 2, (n + 1 + 1)) :: (o, 1, (n + 1)) :: (o, 0, n) :: R) ∧ μ' = ML ((o, 7, 0) :: (o, 6, 0) :: (o, 5, 0) :: E)) := by
  have hnz := (kdS_nz hk).1
  refine ev_aload_n dX3_init_0 0 rfl hnz ?_
  refine mk_objInit (k := 12) ml_3_3 hk dX3_init_1 (Nat.le_of_ble_eq_true rfl) (by decide) ?_
  refine ev_aload_n dX3_init_4 0 rfl hnz ?_
  refine ev_bipush (v := 7) dX3_init_5 rfl ?_
  refine mk_arr (k := 1) (nn := 7) (n := n) (n' := (n + 1)) h0 (Or.inl ⟨rfl, rfl⟩) ac_int ⟨by decide, rfl, by decide⟩ dX3_init_7 rfl (by omega) (by omega) (fun h1 => ?_)
  refine mk_putR (ci := 3) fl_3_9 rfl (fun r hr => by cases hr; exact ⟨rfl, rfl⟩) rfl (kd_old hk) (j := 0) (kd_last h0) dX3_init_9 ?_
  have g2 := OKS.rf (a := o) (k := 0) (r := n) (kd_lt h1 (kd_old hk)) h1
  refine ev_aload_n dX3_init_12 0 rfl hnz ?_
  refine ev_bipush (v := 7) dX3_init_13 rfl ?_
  refine mk_arr (k := 1) (nn := 7) (n := (n + 1)) (n' := (n + 1 + 1)) g2 (Or.inl ⟨rfl, rfl⟩) ac_int ⟨by decide, rfl, by decide⟩ dX3_init_15 rfl (by omega) (by omega) (fun h3 => ?_)
  refine mk_putR (ci := 3) fl_3_15 rfl (fun r hr => by cases hr; exact ⟨rfl, rfl⟩) rfl (kd_old (kd_old hk)) (j := 0) (kd_last g2) dX3_init_17 ?_
  have g4 := OKS.rf (a := o) (k := 1) (r := (n + 1)) (kd_lt h3 (kd_old (kd_old hk))) h3
  refine ev_aload_n dX3_init_20 0 rfl hnz ?_
  refine ev_bipush (v := 7) dX3_init_21 rfl ?_
  refine mk_arr (k := 1) (nn := 7) (n := (n + 1 + 1)) (n' := (n + 1 + 1 + 1)) g4 (Or.inl ⟨rfl, rfl⟩) ac_int ⟨by decide, rfl, by decide⟩ dX3_init_23 rfl (by omega) (by omega) (fun h5 => ?_)
  refine mk_putR (ci := 3) fl_3_18 rfl (fun r hr => by cases hr; exact ⟨rfl, rfl⟩) rfl (kd_old (kd_old (kd_old hk))) (j := 0) (kd_last g4) dX3_init_25 ?_
  have g6 := OKS.rf (a := o) (k := 2) (r := (n + 1 + 1)) (kd_lt h5 (kd_old (kd_old (kd_old hk)))) h5
  refine ev_aload_n dX3_init_28 0 rfl hnz ?_
  refine ev_bipush (v := 7) dX3_init_29 rfl ?_
  refine mk_arr (k := 2) (nn := 7) (n := (n + 1 + 1 + 1)) (n' := (n + 1 + 1 + 1 + 1)) g6 (Or.inr (Or.inl ⟨rfl, rfl⟩)) ac_boolean ⟨by decide, rfl, by decide⟩ dX3_init_31 rfl (by omega) (by omega) (fun h7 => ?_)
  refine mk_putR (ci := 3) fl_3_21 rfl (fun r hr => by cases hr; exact ⟨rfl, rfl⟩) rfl (kd_old (kd_old (kd_old (kd_old hk)))) (j := 1) (kd_last g6) dX3_init_33 ?_
  have g8 := OKS.rf (a := o) (k := 3) (r := (n + 1 + 1 + 1)) (kd_lt h7 (kd_old (kd_old (kd_old (kd_old hk))))) h7
  refine ev_aload_n dX3_init_36 0 rfl hnz ?_
  refine ev_bipush (v := 7) dX3_init_37 rfl ?_
  refine mk_arr (k := 1) (nn := 7) (n := (n + 1 + 1 + 1 + 1)) (n' := (n + 1 + 1 + 1 + 1 + 1)) g8 (Or.inl ⟨rfl, rfl⟩) ac_int ⟨by decide, rfl, by decide⟩ dX3_init_39 rfl (by omega) (by omega) (fun h9 => ?_)
  refine mk_putR (ci := 3) fl_3_25 rfl (fun r hr => by cases hr; exact ⟨rfl, rfl⟩) rfl (kd_old (kd_old (kd_old (kd_old (kd_old hk))))) (j := 0) (kd_last g8) dX3_init_41 ?_
  have g10 := OKS.rf (a := o) (k := 4) (r := (n + 1 + 1 + 1 + 1)) (kd_lt h9 (kd_old (kd_old (kd_old (kd_old (kd_old hk)))))) h9
  refine ev_aload_n dX3_init_44 0 rfl hnz ?_
  refine ev_iconst (v := 0) dX3_init_45 rfl ?_
  refine mk_putI (ci := 3) fl_3_28 ⟨rfl, rfl, rfl⟩ (fun r hr => by cases hr; rfl) (kd_old (kd_old (kd_old (kd_old (kd_old hk))))) dX3_init_46 ?_
  have g11 := OKS.mm (a := o) (k := 5) (x := (0 : Int32)) (kd_lt g10 (kd_old (kd_old (kd_old (kd_old (kd_old hk)))))) g10
  refine ev_aload_n dX3_init_49 0 rfl hnz ?_
  refine ev_iconst (v := 0) dX3_init_50 rfl ?_
  refine mk_putI (ci := 3) fl_3_32 ⟨rfl, rfl, rfl⟩ (fun r hr => by cases hr; rfl) (kd_old (kd_old (kd_old (kd_old (kd_old hk))))) dX3_init_51 ?_
  have g12 := OKS.mm (a := o) (k := 6) (x := (0 : Int32)) (kd_lt g11 (kd_old (kd_old (kd_old (kd_old (kd_old hk)))))) g11
  refine ev_aload_n dX3_init_54 0 rfl hnz ?_
  refine ev_iconst (v := 0) dX3_init_55 rfl ?_
  refine mk_putI (ci := 3) fl_3_35 ⟨rfl, rfl, rfl⟩ (fun r hr => by cases hr; rfl) (kd_old (kd_old (kd_old (kd_old (kd_old hk))))) dX3_init_56 ?_
  have g13 := OKS.mm (a := o) (k := 7) (x := (0 : Int32)) (kd_lt g12 (kd_old (kd_old (kd_old (kd_old (kd_old hk)))))) g12
  exact mk_return dX3_init_59 rfl (g13).1 rfl rfl rfl
theorem ct_X4_init {G : GW} (o n z : Nat) (L : List (Nat × Nat)) (R : List (Nat × Nat × Nat)) (E : List (Nat × Nat × Int32)) (h0 : OKS n L R E) (hk : kdS L o = 14) : EvW G mX4_init 1 (n + 1) (z + 40) 0 [(0, .ref o)] [] (SL z L R) (ML E) (fun v S' μ' => v = none ∧ S' = SL (z + 40) (L ++ [(1, 40)]) ((o, 0, n) :: R) ∧ μ' = ML ((o, 2, 0) :: (o, 1, (-1)) :: E)) := by
  have hnz := (kdS_nz hk).1
  refine ev_aload_n dX4_init_0 0 rfl hnz ?_
  refine mk_objInit (k := 13) ml_4_3 hk dX4_init_1 (Nat.le_of_ble_eq_true rfl) (by decide) ?_
  refine ev_aload_n dX4_init_4 0 rfl hnz ?_
  refine ev_bipush (v := 40) dX4_init_5 rfl ?_
  refine mk_arr (k := 1) (nn := 40) (n := n) (n' := (n + 1)) h0 (Or.inl ⟨rfl, rfl⟩) ac_int ⟨by decide, rfl, by decide⟩ dX4_init_7 rfl (by omega) (by omega) (fun h1 => ?_)
  refine mk_putR (ci := 4) fl_4_9 rfl (fun r hr => by cases hr; exact ⟨rfl, rfl⟩) rfl (kd_old hk) (j := 0) (kd_last h0) dX4_init_9 ?_
  have g2 := OKS.rf (a := o) (k := 0) (r := n) (kd_lt h1 (kd_old hk)) h1
  refine ev_aload_n dX4_init_12 0 rfl hnz ?_
  refine ev_iconst (v := (-1)) dX4_init_13 rfl ?_
  refine mk_putI (ci := 4) fl_4_15 ⟨rfl, rfl, rfl⟩ (fun r hr => by cases hr; rfl) (kd_old hk) dX4_init_14 ?_
  have g3 := OKS.mm (a := o) (k := 1) (x := ((-1) : Int32)) (kd_lt g2 (kd_old hk)) g2
  refine ev_aload_n dX4_init_17 0 rfl hnz ?_
  refine ev_iconst (v := 0) dX4_init_18 rfl ?_
  refine mk_putI (ci := 4) fl_4_19 ⟨rfl, rfl, rfl⟩ (fun r hr => by cases hr; rfl) (kd_old hk) dX4_init_19 ?_
  have g4 := OKS.mm (a := o) (k := 2) (x := (0 : Int32)) (kd_lt g3 (kd_old hk)) g3
  exact mk_return dX4_init_22 rfl (g4).1 rfl rfl rfl
theorem ct_X6_init {G : GW} (o n z : Nat) (L : List (Nat × Nat)) (R : List (Nat × Nat × Nat)) (E : List (Nat × Nat × Int32)) (h0 : OKS n L R E) (hk : kdS L o = 16) : EvW G mX6_init 1 (n + 1 + 1 + 1) (z + 160 + 3 + 40) 0 [(0, .ref o)] [] (SL z L R) (ML E) (fun v S' μ' => v = none ∧ S' = SL (z + 160 + 3 + 40) (L ++ [(1, 160)] ++ [(1, 3)] ++ [(1, 40)]) ((o, 2, (n + 1 + 1)) :: (o, 1, (n + 1)) :: (o, 0, n) :: R) ∧ μ' = ML (((n + 1), 2, 3) :: ((n + 1), 1, 2) :: ((n + 1), 0, 1) :: (n, 2, 7) :: (n, 1, 6) :: (n, 0, 6) :: (o, 3, 3) :: E)) := by
  have hnz := (kdS_nz hk).1
  refine ev_aload_n dX6_init_0 0 rfl hnz ?_
  refine mk_objInit (k := 15) ml_6_3 hk dX6_init_1 (Nat.le_of_ble_eq_true rfl) (by decide) ?_
  refine ev_aload_n dX6_init_4 0 rfl hnz ?_
  refine ev_sipush (v := 160) dX6_init_5 rfl ?_
  refine mk_arr (k := 1) (nn := 160) (n := n) (n' := (n + 1)) h0 (Or.inl ⟨rfl, rfl⟩) ac_int ⟨by decide, rfl, by decide⟩ dX6_init_8 rfl (by omega) (by omega) (fun h1 => ?_)
  refine mk_putR (ci := 6) fl_6_9 rfl (fun r hr => by cases hr; exact ⟨rfl, rfl⟩) rfl (kd_old hk) (j := 0) (kd_last h0) dX6_init_10 ?_
  have g2 := OKS.rf (a := o) (k := 0) (r := n) (kd_lt h1 (kd_old hk)) h1
  refine ev_aload_n dX6_init_13 0 rfl hnz ?_
  refine ev_iconst (v := 3) dX6_init_14 rfl ?_
  refine mk_arr (k := 1) (nn := 3) (n := (n + 1)) (n' := (n + 1 + 1)) g2 (Or.inl ⟨rfl, rfl⟩) ac_int ⟨by decide, rfl, by decide⟩ dX6_init_15 rfl (by omega) (by omega) (fun h3 => ?_)
  refine mk_putR (ci := 6) fl_6_15 rfl (fun r hr => by cases hr; exact ⟨rfl, rfl⟩) rfl (kd_old (kd_old hk)) (j := 0) (kd_last g2) dX6_init_17 ?_
  have g4 := OKS.rf (a := o) (k := 1) (r := (n + 1)) (kd_lt h3 (kd_old (kd_old hk))) h3
  refine ev_aload_n dX6_init_20 0 rfl hnz ?_
  refine ev_bipush (v := 40) dX6_init_21 rfl ?_
  refine mk_arr (k := 1) (nn := 40) (n := (n + 1 + 1)) (n' := (n + 1 + 1 + 1)) g4 (Or.inl ⟨rfl, rfl⟩) ac_int ⟨by decide, rfl, by decide⟩ dX6_init_23 rfl (by omega) (by omega) (fun h5 => ?_)
  refine mk_putR (ci := 6) fl_6_18 rfl (fun r hr => by cases hr; exact ⟨rfl, rfl⟩) rfl (kd_old (kd_old (kd_old hk))) (j := 0) (kd_last g4) dX6_init_25 ?_
  have g6 := OKS.rf (a := o) (k := 2) (r := (n + 1 + 1)) (kd_lt h5 (kd_old (kd_old (kd_old hk)))) h5
  refine ev_aload_n dX6_init_28 0 rfl hnz ?_
  refine ev_iconst (v := 3) dX6_init_29 rfl ?_
  refine mk_putI (ci := 6) fl_6_21 ⟨rfl, rfl, rfl⟩ (fun r hr => by cases hr; rfl) (kd_old (kd_old (kd_old hk))) dX6_init_30 ?_
  have g7 := OKS.mm (a := o) (k := 3) (x := (3 : Int32)) (kd_lt g6 (kd_old (kd_old (kd_old hk)))) g6
  refine ev_aload_n dX6_init_33 0 rfl hnz ?_
  refine mk_getR (ci := 6) (b := n) fl_6_9 rfl (kd_old (kd_old (kd_old hk))) (by simp [rfS]) dX6_init_34 ?_
  refine ev_iconst (v := 0) dX6_init_37 rfl ?_
  refine ev_bipush (v := 6) dX6_init_38 rfl ?_
  refine mk_ist (m := 160) (j := 0) (kd_old (kd_old (kd_last h0))) (ln_old (kd_old (kd_last h0)) (ln_old (kd_last h0) (ln_last h0))) (vp_c ⟨rfl, rfl⟩) rfl dX6_init_40 ?_
  have g8 := OKS.mm (a := n) (k := 0) (x := (6 : Int32)) (kd_lt g7 (kd_old (kd_old (kd_last h0)))) g7
  refine ev_aload_n dX6_init_41 0 rfl hnz ?_
  refine mk_getR (ci := 6) (b := n) fl_6_9 rfl (kd_old (kd_old (kd_old hk))) (by simp [rfS]) dX6_init_42 ?_
  refine ev_iconst (v := 1) dX6_init_45 rfl ?_
  refine ev_bipush (v := 6) dX6_init_46 rfl ?_
  refine mk_ist (m := 160) (j := 1) (kd_old (kd_old (kd_last h0))) (ln_old (kd_old (kd_last h0)) (ln_old (kd_last h0) (ln_last h0))) (vp_c ⟨rfl, rfl⟩) rfl dX6_init_48 ?_
  have g9 := OKS.mm (a := n) (k := 1) (x := (6 : Int32)) (kd_lt g8 (kd_old (kd_old (kd_last h0)))) g8
  refine ev_aload_n dX6_init_49 0 rfl hnz ?_
  refine mk_getR (ci := 6) (b := n) fl_6_9 rfl (kd_old (kd_old (kd_old hk))) (by simp [rfS]) dX6_init_50 ?_
  refine ev_iconst (v := 2) dX6_init_53 rfl ?_
  refine ev_bipush (v := 7) dX6_init_54 rfl ?_
  refine mk_ist (m := 160) (j := 2) (kd_old (kd_old (kd_last h0))) (ln_old (kd_old (kd_last h0)) (ln_old (kd_last h0) (ln_last h0))) (vp_c ⟨rfl, rfl⟩) rfl dX6_init_56 ?_
  have g10 := OKS.mm (a := n) (k := 2) (x := (7 : Int32)) (kd_lt g9 (kd_old (kd_old (kd_last h0)))) g9
  refine ev_iconst (v := 0) dX6_init_57 rfl ?_
  refine ev_istore_n (lv' := [(0, .ref o), (1, .int 0)]) dX6_init_58 (by decide) [1, 0] rfl ?_
  refine ev_iload_n dX6_init_59 1 rfl ?_
  refine ev_iconst (v := 3) dX6_init_60 rfl ?_
  refine ev_icmp_ge (tgt := 79) dX6_init_61 rfl (fun c11 => absurd c11 (by decide)) (fun _ => ?_)
  refine ev_aload_n dX6_init_64 0 rfl hnz ?_
  refine mk_getR (ci := 6) (b := (n + 1)) fl_6_15 rfl (kd_old (kd_old (kd_old hk))) (by simp [rfS]) dX6_init_65 ?_
  refine ev_iload_n dX6_init_68 1 rfl ?_
  refine ev_iload_n dX6_init_69 1 rfl ?_
  refine ev_iconst (v := 1) dX6_init_70 rfl ?_
  refine ev_iadd dX6_init_71 ?_
  refine ev_cast (v := 1) rfl ?_
  refine mk_ist (m := 3) (j := 0) (kd_old (kd_last g2)) (ln_old (kd_last g2) (ln_last g2)) (vp_c ⟨rfl, rfl⟩) rfl dX6_init_72 ?_
  have g12 := OKS.mm (a := (n + 1)) (k := 0) (x := (1 : Int32)) (kd_lt g10 (kd_old (kd_last g2))) g10
  refine ev_iinc (v := 1) (lv' := [(0, .ref o), (1, .int 1)]) dX6_init_73 1 rfl rfl (by decide) [1, 0] rfl ?_
  refine ev_goto (tgt := 59) dX6_init_76 rfl ?_
  refine ev_iload_n dX6_init_59 1 rfl ?_
  refine ev_iconst (v := 3) dX6_init_60 rfl ?_
  refine ev_icmp_ge (tgt := 79) dX6_init_61 rfl (fun c13 => absurd c13 (by decide)) (fun _ => ?_)
  refine ev_aload_n dX6_init_64 0 rfl hnz ?_
  refine mk_getR (ci := 6) (b := (n + 1)) fl_6_15 rfl (kd_old (kd_old (kd_old hk))) (by simp [rfS]) dX6_init_65 ?_
  refine ev_iload_n dX6_init_68 1 rfl ?_
  refine ev_iload_n dX6_init_69 1 rfl ?_
  refine ev_iconst (v := 1) dX6_init_70 rfl ?_
  refine ev_iadd dX6_init_71 ?_
  refine ev_cast (v := 2) rfl ?_
  refine mk_ist (m := 3) (j := 1) (kd_old (kd_last g2)) (ln_old (kd_last g2) (ln_last g2)) (vp_c ⟨rfl, rfl⟩) rfl dX6_init_72 ?_
  have g14 := OKS.mm (a := (n + 1)) (k := 1) (x := (2 : Int32)) (kd_lt g12 (kd_old (kd_last g2))) g12
  refine ev_iinc (v := 2) (lv' := [(0, .ref o), (1, .int 2)]) dX6_init_73 1 rfl rfl (by decide) [1, 0] rfl ?_
  refine ev_goto (tgt := 59) dX6_init_76 rfl ?_
  refine ev_iload_n dX6_init_59 1 rfl ?_
  refine ev_iconst (v := 3) dX6_init_60 rfl ?_
  refine ev_icmp_ge (tgt := 79) dX6_init_61 rfl (fun c15 => absurd c15 (by decide)) (fun _ => ?_)
  refine ev_aload_n dX6_init_64 0 rfl hnz ?_
  refine mk_getR (ci := 6) (b := (n + 1)) fl_6_15 rfl (kd_old (kd_old (kd_old hk))) (by simp [rfS]) dX6_init_65 ?_
  refine ev_iload_n dX6_init_68 1 rfl ?_
  refine ev_iload_n dX6_init_69 1 rfl ?_
  refine ev_iconst (v := 1) dX6_init_70 rfl ?_
  refine ev_iadd dX6_init_71 ?_
  refine ev_cast (v := 3) rfl ?_
  refine mk_ist (m := 3) (j := 2) (kd_old (kd_last g2)) (ln_old (kd_last g2) (ln_last g2)) (vp_c ⟨rfl, rfl⟩) rfl dX6_init_72 ?_
  have g16 := OKS.mm (a := (n + 1)) (k := 2) (x := (3 : Int32)) (kd_lt g14 (kd_old (kd_last g2))) g14
  refine ev_iinc (v := 3) (lv' := [(0, .ref o), (1, .int 3)]) dX6_init_73 1 rfl rfl (by decide) [1, 0] rfl ?_
  refine ev_goto (tgt := 59) dX6_init_76 rfl ?_
  refine ev_iload_n dX6_init_59 1 rfl ?_
  refine ev_iconst (v := 3) dX6_init_60 rfl ?_
  refine ev_icmp_ge (tgt := 79) dX6_init_61 rfl (fun _ => ?_) (fun c17 => absurd (by decide) c17)
  exact mk_return dX6_init_79 rfl (g16).1 rfl rfl rfl
theorem ct_X1_init {G : GW} (o n z : Nat) (L : List (Nat × Nat)) (R : List (Nat × Nat × Nat)) (E : List (Nat × Nat × Int32)) (h0 : OKS n L R E) (hk : kdS L o = 11) : EvW G mX1_init 1 (n + 1 + 1 + 1 + 1 + 1 + 1 + 1 + 1 + 1) (z + 56 + 7) 0 [(0, .ref o)] [] (SL z L R) (ML E) (fun v S' μ' => v = none ∧ S' = SL (z + 56 + 7) (L ++ mulL ++ [(1, 7)]) ((o, 1, (n + 1 + 1 + 1 + 1 + 1 + 1 + 1 + 1)) :: (o, 0, n) :: (mulR n ++ R)) ∧ μ' = ML ((o, 5, 0) :: (o, 4, 0) :: (o, 3, 0) :: (o, 2, 0) :: E)) := by
  have hnz := (kdS_nz hk).1
  refine ev_aload_n dX1_init_0 0 rfl hnz ?_
  refine mk_objInit (k := 10) ml_1_3 hk dX1_init_1 (Nat.le_of_ble_eq_true rfl) (by decide) ?_
  refine ev_aload_n dX1_init_4 0 rfl hnz ?_
  refine ev_bipush (v := 7) dX1_init_5 rfl ?_
  refine ev_bipush (v := 7) dX1_init_7 rfl ?_
  refine mk_mul (n := n) h0 kl_1_9 ⟨rfl, rfl⟩ dX1_init_9 (by omega) (by omega) ?_
  have h1 := h0.mul
  refine mk_putR (ci := 1) fl_1_11 rfl (fun r hr => by cases hr; exact ⟨rfl, rfl⟩) rfl (kd_mul hk) (j := 3) (kd_mulq h0) dX1_init_13 ?_
  have g2 := OKS.rf (a := o) (k := 0) (r := n) (kd_lt h1 (kd_mul hk)) h1
  refine ev_aload_n dX1_init_16 0 rfl hnz ?_
  refine ev_bipush (v := 7) dX1_init_17 rfl ?_
  refine mk_arr (k := 1) (nn := 7) (n := (n + 1 + 1 + 1 + 1 + 1 + 1 + 1 + 1)) (n' := (n + 1 + 1 + 1 + 1 + 1 + 1 + 1 + 1 + 1)) g2 (Or.inl ⟨rfl, rfl⟩) ac_int ⟨by decide, rfl, by decide⟩ dX1_init_19 rfl (by omega) (by omega) (fun h3 => ?_)
  refine mk_putR (ci := 1) fl_1_16 rfl (fun r hr => by cases hr; exact ⟨rfl, rfl⟩) rfl (kd_old (kd_mul hk)) (j := 0) (kd_last g2) dX1_init_21 ?_
  have g4 := OKS.rf (a := o) (k := 1) (r := (n + 1 + 1 + 1 + 1 + 1 + 1 + 1 + 1)) (kd_lt h3 (kd_old (kd_mul hk))) h3
  refine ev_aload_n dX1_init_24 0 rfl hnz ?_
  refine ev_iconst (v := 0) dX1_init_25 rfl ?_
  refine mk_putI (ci := 1) fl_1_20 ⟨rfl, rfl, rfl⟩ (fun r hr => by cases hr; rfl) (kd_old (kd_mul hk)) dX1_init_26 ?_
  have g5 := OKS.mm (a := o) (k := 2) (x := (0 : Int32)) (kd_lt g4 (kd_old (kd_mul hk))) g4
  refine ev_aload_n dX1_init_29 0 rfl hnz ?_
  refine ev_iconst (v := 0) dX1_init_30 rfl ?_
  refine mk_putI (ci := 1) fl_1_24 ⟨rfl, rfl, rfl⟩ (fun r hr => by cases hr; rfl) (kd_old (kd_mul hk)) dX1_init_31 ?_
  have g6 := OKS.mm (a := o) (k := 3) (x := (0 : Int32)) (kd_lt g5 (kd_old (kd_mul hk))) g5
  refine ev_aload_n dX1_init_34 0 rfl hnz ?_
  refine ev_iconst (v := 0) dX1_init_35 rfl ?_
  refine mk_putI (ci := 1) fl_1_28 ⟨rfl, rfl, rfl⟩ (fun r hr => by cases hr; rfl) (kd_old (kd_mul hk)) dX1_init_36 ?_
  have g7 := OKS.mm (a := o) (k := 4) (x := (0 : Int32)) (kd_lt g6 (kd_old (kd_mul hk))) g6
  refine ev_aload_n dX1_init_39 0 rfl hnz ?_
  refine ev_iconst (v := 0) dX1_init_40 rfl ?_
  refine mk_putI (ci := 1) fl_1_31 ⟨rfl, rfl, rfl⟩ (fun r hr => by cases hr; rfl) (kd_old (kd_mul hk)) dX1_init_41 ?_
  have g8 := OKS.mm (a := o) (k := 5) (x := (0 : Int32)) (kd_lt g7 (kd_old (kd_mul hk))) g7
  exact mk_return dX1_init_44 rfl (g8).1 rfl rfl rfl
theorem ct_X2_init {G : GW} (o n z : Nat) (L : List (Nat × Nat)) (R : List (Nat × Nat × Nat)) (E : List (Nat × Nat × Int32)) (h0 : OKS n L R E) (hk : kdS L o = 12) : EvW G mX2_init 2 (n + 1 + 1) (z + 5 + 160) 0 [(0, .ref o)] [] (SL z L R) (ML E) (fun v S' μ' => v = none ∧ S' = SL (z + 5 + 160) (L ++ [(15, 0)] ++ [(1, 160)]) ((o, 0, n) :: (n, 0, (n + 1)) :: R) ∧ μ' = ML ((o, 2, (-1)) :: (o, 1, 22) :: (n, 4, 0) :: (n, 3, 0) :: (n, 2, 0) :: (n, 1, 0) :: E)) := by
  have hnz := (kdS_nz hk).1
  refine ev_aload_n dX2_init_0 0 rfl hnz ?_
  refine mk_objInit (k := 11) ml_2_3 hk dX2_init_1 (Nat.le_of_ble_eq_true rfl) (by decide) ?_
  refine ev_aload_n dX2_init_4 0 rfl hnz ?_
  refine mk_new (ci := 5) (nf := 5) (n := n) (n' := (n + 1)) h0 rfl rfl kl_2_9 dv_5 dX2_init_5 rfl (by omega) (by omega) (fun h1 => ?_)
  refine ev_dup dX2_init_8 rfl ?_
  refine mk_callIN (k := 14) (N' := (n + 1 + 1)) (Z' := z + 5 + 160) ok_X5_init ⟨rfl, rfl⟩ vi_X5_init nw_2_11 (kd_last h0) dX2_init_9 (Nat.le_of_ble_eq_true rfl) (by decide) (by decide) (ct_X5_init n (n + 1) (z + 5) _ _ _ h1 (kd_last h0)) ⟨⟨by have := (h1).1; omega, by omega⟩, by omega, by omega⟩ ?_
  have h2 := OKS.app (x := (1, 160)) h1
  have g3 := OKS.rf (a := n) (k := 0) (r := (n + 1)) (kd_lt h2 (kd_old (kd_last h0))) h2
  have g4 := OKS.mm (a := n) (k := 1) (x := (0 : Int32)) (kd_lt g3 (kd_old (kd_last h0))) g3
  have g5 := OKS.mm (a := n) (k := 2) (x := (0 : Int32)) (kd_lt g4 (kd_old (kd_last h0))) g4
  have g6 := OKS.mm (a := n) (k := 3) (x := (0 : Int32)) (kd_lt g5 (kd_old (kd_last h0))) g5
  have g7 := OKS.mm (a := n) (k := 4) (x := (0 : Int32)) (kd_lt g6 (kd_old (kd_last h0))) g6
  refine mk_putR (ci := 2) fl_2_12 rfl (fun r hr => by cases hr; exact ⟨rfl, rfl⟩) rfl (kd_old (kd_old hk)) (j := 14) (kd_old (kd_last h0)) dX2_init_12 ?_
  have g8 := OKS.rf (a := o) (k := 0) (r := n) (kd_lt g7 (kd_old (kd_old hk))) g7
  refine ev_aload_n dX2_init_15 0 rfl hnz ?_
  refine ev_bipush (v := 22) dX2_init_16 rfl ?_
  refine mk_putI (ci := 2) fl_2_18 ⟨rfl, rfl, rfl⟩ (fun r hr => by cases hr; rfl) (kd_old (kd_old hk)) dX2_init_18 ?_
  have g9 := OKS.mm (a := o) (k := 1) (x := (22 : Int32)) (kd_lt g8 (kd_old (kd_old hk))) g8
  refine ev_aload_n dX2_init_21 0 rfl hnz ?_
  refine ev_iconst (v := (-1)) dX2_init_22 rfl ?_
  refine mk_putI (ci := 2) fl_2_22 ⟨rfl, rfl, rfl⟩ (fun r hr => by cases hr; rfl) (kd_old (kd_old hk)) dX2_init_23 ?_
  have g10 := OKS.mm (a := o) (k := 2) (x := ((-1) : Int32)) (kd_lt g9 (kd_old (kd_old hk))) g9
  exact mk_return dX2_init_26 rfl (g10).1 rfl rfl rfl
