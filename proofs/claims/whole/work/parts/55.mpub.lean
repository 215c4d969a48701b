/-! ===== the reference's public methods: what is told, walks, rides, horses ===== -/
theorem vMc.eq {α β μ ν : Mem} (h : vMc α μ) (h0 : ∀ k, k < 5 → β 0 k = α 0 k) (n : ∀ k, k = 1 ∨ k = 4 ∨ k = 12 ∨ k = 13 ∨ k = 14 → ν 82 k = μ 82 k) : vMc β ν := by
  obtain ⟨c1, c2, c3, c4, c5⟩ := h
  exact ⟨by rw [n 4 (by omega), h0 0 (by omega)]; exact c1, by rw [n 1 (by omega), h0 1 (by omega)]; exact c2, by rw [n 13 (by omega), h0 2 (by omega)]; exact c3, by rw [n 14 (by omega), h0 3 (by omega)]; exact c4, by rw [n 12 (by omega), h0 4 (by omega)]; exact c5⟩
theorem vMw.eq {α β μ ν : Mem} (h : vMw α μ) (e : β 1 = α 1) (n : ν 83 = μ 83) : vMw β ν := fun k hk => by rw [e, n]; exact h k hk
theorem vMr.eq {α β μ ν : Mem} (h : vMr α μ) (e1 : β 0 1 = α 0 1) (e2 : β 2 = α 2) (e3 : β 3 = α 3) (n : ν 84 = μ 84) (n' : ν 85 = μ 85) : vMr β ν := fun i hi => by
  unfold aR at hi
  rw [e1] at hi
  rw [e2, e3, n, n']
  exact h i hi
theorem vMh.eq {α β μ ν : Mem} (h : vMh α μ) (e0 : β 0 0 = α 0 0) (e : ∀ f, f < 6 → β (4 + f) = α (4 + f)) (n : ∀ f, f < 6 → ν (86 + f) = μ (86 + f)) : vMh β ν := fun i hi f hf => by
  unfold aN at hi
  rw [e0] at hi
  rw [e f hf, n f hf]
  exact h i hi f hf
theorem vMt.eq {α β μ ν : Mem} (h : vMt α μ) (e0 : β 0 4 = α 0 4) (e : β 10 = α 10) (n : ν 92 = μ 92) : vMt β ν := fun i hi => by
  unfold aT at hi
  rw [e0] at hi
  rw [e, n]
  exact h i hi
theorem vMx.eq {α β μ ν : Mem} (h : vMx α μ) (e0 : β 0 2 = α 0 2) (e1 : β 17 = α 17) (e2 : β 18 = α 18) (n : ν 93 = μ 93) (n' : ν 94 = μ 94) : vMx β ν := fun t ht p hp => by
  unfold aX at ht
  rw [e0] at ht
  unfold vMx1
  rw [e1, e2, n, n']
  exact h t ht p hp
theorem vMi.eq {α β μ ν : Mem} (h : vMi α μ) (e : β 11 = α 11) (e1 : β 12 = α 12) (e2 : β 13 = α 13) (n : ∀ k, k = 39 ∨ k = 42 ∨ k = 43 ∨ k = 44 → ν 82 k = μ 82 k) (n1 : ν 107 = μ 107) (n2 : ν 108 = μ 108) : vMi β ν := by
  unfold vMi
  rw [e, e1, e2, n 39 (by omega), n 42 (by omega), n 43 (by omega), n 44 (by omega), n1, n2]
  exact h
theorem vMs.eq {α β μ ν : Mem} (h : vMs α μ) (e : β 14 = α 14) (e1 : β 15 = α 15) (e2 : β 16 = α 16) (n : ν 109 = μ 109) (n1 : ν 110 = μ 110) (n2 : ν 111 = μ 111) : vMs β ν := fun s hs => by
  rw [e, e1, e2, n, n1, n2]
  exact h s hs
theorem vMk.eq {μ ν : Mem} (h : vMk μ) (n : ν 95 = μ 95) (n1 : ν 96 = μ 96) : vMk ν := by
  unfold vMk
  rw [n, n1]
  exact h
theorem vm_walk {α μ : Mem} (h : VM α μ) {a b : Nat} (v : Int32) : VM (walkA α a b v) (walkN μ a b v) ∧ keepX μ (walkN μ a b v) := by
  obtain ⟨vc, vw, vr, vh, vt, vx, vi, vs, vk⟩ := h
  have e : ∀ r, r ≠ 1 → walkA α a b v r = α r := fun r h => walkA_row h
  have e0 : ∀ k, k < 5 → walkA α a b v 0 k = α 0 k := fun k _ => by rw [e 0 (by omega)]
  have n : ∀ r, r ≠ 83 → walkN μ a b v r = μ r := fun r h => by unfold walkN; rw [mset_ne h, mset_ne h]
  have n0 : ∀ k, k < 100 → walkN μ a b v 82 k = μ 82 k := fun k _ => by rw [n 82 (by omega)]
  refine ⟨⟨?_, ?_, ?_, ?_, ?_, ?_, ?_, ?_, ?_⟩, fun r hr => n r (by omega)⟩
  · exact vc.eq (fun k _ => e0 k (by omega)) (fun k _ => n0 k (by omega))
  · intro k hk
    have := vw k hk
    simp [walkN, walkA, mset, this]
  · exact vr.eq (e0 1 (by omega)) (e 2 (by omega)) (e 3 (by omega)) (n 84 (by omega)) (n 85 (by omega))
  · exact vh.eq (e0 0 (by omega)) (fun f _ => e (4 + f) (by omega)) (fun f _ => n (86 + f) (by omega))
  · exact vt.eq (e0 4 (by omega)) (e 10 (by omega)) (n 92 (by omega))
  · exact vx.eq (e0 2 (by omega)) (e 17 (by omega)) (e 18 (by omega)) (n 93 (by omega)) (n 94 (by omega))
  · exact vi.eq (e 11 (by omega)) (e 12 (by omega)) (e 13 (by omega)) (fun k _ => n0 k (by omega)) (n 107 (by omega)) (n 108 (by omega))
  · exact vs.eq (e 14 (by omega)) (e 15 (by omega)) (e 16 (by omega)) (n 109 (by omega)) (n 110 (by omega)) (n 111 (by omega))
  · exact vk.eq (n 95 (by omega)) (n 96 (by omega))
theorem sg_X8_path_0 {G : GW} {K : Option Value → Mem → Prop} {μ : Mem} {x1 x2 x3 : Int32}  (h : (((inB x1 0 6) = false) → K (some (.int (-5))) μ) ∧ (((inB x1 0 6) = true) → (((inB x2 0 6) = false) → K (some (.int (-5))) μ) ∧ (((inB x2 0 6) = true) → ((¬ x1 = x2) → (((inB x3 (1 : Int32) (999 : Int32)) = true) → (vp_in ((7 * x1) + x2) 49) ∧ ∀ y15 : Int32, y15 = (μ 83 ((7 * x1) + x2).toNatClampNeg) → (vp_in x1 7 ∧ vp_in x2 7) ∧ K (some (.int y15)) (walkN μ x1.toNatClampNeg x2.toNatClampNeg x3)) ∧ (((inB x3 (1 : Int32) (999 : Int32)) = false) → K (some (.int (-7))) μ)) ∧ ((x1 = x2) → K (some (.int (-5))) μ)))) : Ev2 G mX8_path 3 0 [(0, .ref 82), (1, .int x1), (2, .int x2), (3, .int x3)] [] μ K := by
  refine ev_iload_n dX8_path_0 1 rfl ?_
  refine e2_callS (w := .int (bi (inB x1 0 6))) (μ1 := μ) (as := [.int x1]) (st := []) ok_X8_isPlace sv_X8_isPlace ml_8_18 dX8_path_1 rfl rfl (Nat.le_of_ble_eq_true rfl) (Nat.le_of_ble_eq_true rfl) (by decide) (ct_X8_isPlace (x1) μ) ?_
  refine ev_ifeq_bi (tgt := 19) dX8_path_4 rfl (fun c1 => ?_) (fun c1 => ?_)
  · have h2 := h.1 c1
    refine ev_bipush (v := (-5)) dX8_path_19 rfl ?_
    exact ev_ireturn dX8_path_21 rfl True.intro rfl rfl ⟨rfl, h2⟩
  · have h3 := h.2 c1
    refine ev_iload_n dX8_path_7 2 rfl ?_
    refine e2_callS (w := .int (bi (inB x2 0 6))) (μ1 := μ) (as := [.int x2]) (st := []) ok_X8_isPlace sv_X8_isPlace ml_8_18 dX8_path_8 rfl rfl (Nat.le_of_ble_eq_true rfl) (Nat.le_of_ble_eq_true rfl) (by decide) (ct_X8_isPlace (x2) μ) ?_
    refine ev_ifeq_bi (tgt := 19) dX8_path_11 rfl (fun c4 => ?_) (fun c4 => ?_)
    · have h5 := h3.1 c4
      refine ev_bipush (v := (-5)) dX8_path_19 rfl ?_
      exact ev_ireturn dX8_path_21 rfl True.intro rfl rfl ⟨rfl, h5⟩
    · have h6 := h3.2 c4
      refine ev_iload_n dX8_path_14 1 rfl ?_
      refine ev_iload_n dX8_path_15 2 rfl ?_
      refine ev_icmp_ne (tgt := 22) dX8_path_16 rfl (fun c7 => ?_) (fun c7 => ?_)
      · have h8 := h6.1 c7
        refine ev_iload_n dX8_path_22 3 rfl ?_
        refine ev_iconst (v := 1) dX8_path_23 rfl ?_
        refine ev_sipush (v := 999) dX8_path_24 rfl ?_
        refine e2_callS (w := .int (bi (inB x3 (1 : Int32) (999 : Int32)))) (μ1 := μ) (as := [.int x3, .int 1, .int 999]) (st := []) ok_X8_isIn sv_X8_isIn ml_8_3 dX8_path_27 rfl rfl (Nat.le_of_ble_eq_true rfl) (Nat.le_of_ble_eq_true rfl) (by decide) (ct_X8_isIn (x3) (1) (999) μ) ?_
        refine ev_ifne_bi (tgt := 36) dX8_path_30 rfl (fun c10 => ?_) (fun c10 => ?_)
        · have h11 := h8.1 c10
          refine ev_aload_n dX8_path_36 0 rfl (by decide) ?_
          refine ev_getR' fl_8_14 rfl kd_82 rf_82_0 dX8_path_37 ?_
          refine ev_bipush (v := 7) dX8_path_40 rfl ?_
          refine ev_iload_n dX8_path_42 1 rfl ?_
          refine ev_imul dX8_path_43 ?_
          refine ev_iload_n dX8_path_44 2 rfl ?_
          refine ev_iadd dX8_path_45 ?_
          have p13 := h11.1
          have h14 := h11.2
          refine ev_iaload' (v := (μ 83 ((7 * x1) + x2).toNatClampNeg)) kd_83 ln_83 p13 rfl dX8_path_46 ?_
          refine ev_top (fun y15 ey15 => ?_)
          have h16 := h14 y15 ey15
          refine ev_istore (lv' := [(0, .ref 82), (1, .int x1), (2, .int x2), (3, .int x3), (4, .int y15)]) dX8_path_47 (by decide) [1, 2, 3, 4, 0] rfl ?_
          refine ev_aload_n dX8_path_49 0 rfl (by decide) ?_
          refine ev_iload_n dX8_path_50 1 rfl ?_
          refine ev_iload_n dX8_path_51 2 rfl ?_
          refine ev_iload_n dX8_path_52 3 rfl ?_
          have p17 := h16.1
          have h18 := h16.2
          refine e2_callVv (μ1 := (walkN μ x1.toNatClampNeg x2.toNatClampNeg x3)) (a := 82) (as := [.int x1, .int x2, .int x3]) (st := []) ok_X8_walkIs vi_X8_walkIs ml_8_22 hcl_8 kd_82 dX8_path_53 rfl rfl (Nat.le_of_ble_eq_true rfl) (Nat.le_of_ble_eq_true rfl) (by decide) (ct_X8_walkIs (x1) (x2) (x3) μ p17) ?_
          refine ev_iload dX8_path_56 4 rfl ?_
          exact ev_ireturn dX8_path_58 rfl True.intro rfl rfl ⟨rfl, h18⟩
        · have h12 := h8.2 c10
          refine ev_bipush (v := (-7)) dX8_path_33 rfl ?_
          exact ev_ireturn dX8_path_35 rfl True.intro rfl rfl ⟨rfl, h12⟩
      · have h9 := h6.2 c7
        refine ev_bipush (v := (-5)) dX8_path_19 rfl ?_
        exact ev_ireturn dX8_path_21 rfl True.intro rfl rfl ⟨rfl, h9⟩
theorem pb_X8_path {G : GW} {α μ : Mem} (hf : WF α) (h : VM α μ) (x1 x2 x3 : Int32) : pubM G mX8_path 3 [(0, .ref 82), (1, .int x1), (2, .int x2), (3, .int x3)] α μ (.int (sp_path α x1 x2 x3)) (sq_path α x1 x2 x3) := by
  have hk := keepX.rf μ
  have no : wayB x1 x2 = false → (some (Value.int (-5)) = some (Value.int (sp_path α x1 x2 x3)) ∧ VM (sq_path α x1 x2 x3) μ ∧ keepX μ μ) := fun c => by
    unfold sp_path sq_path
    rw [if_neg (by rw [c]; decide), if_neg (by rw [c]; simp)]
    exact ⟨rfl, h, hk⟩
  refine sg_X8_path_0 ⟨fun c => no (by simp [wayB, c]), fun c1 => ⟨fun c => no (by simp [wayB, c]), fun c2 => ⟨fun c3 => ⟨fun d => ?_, fun d => ?_⟩, fun c => no (by simp [wayB, c])⟩⟩⟩
  · have cw : wayB x1 x2 = true := by simp [wayB, c1, c2, c3]
    obtain ⟨a, ha, rfl⟩ := inB_p c1
    obtain ⟨b, hb, rfl⟩ := inB_p c2
    obtain ⟨q1, q2⟩ := ix_7 ha hb
    refine ⟨q1, fun y hy => ⟨⟨vp_nI ha (by omega), vp_nI hb (by omega)⟩, ?_, ?_⟩⟩
    · unfold sp_path
      rw [if_pos cw, if_pos d, hy, q2, ix_nI (by omega), ix_nI (by omega), h.2.1 _ (by omega)]
    · unfold sq_path
      rw [if_pos ⟨cw, d⟩, ix_nI (by omega), ix_nI (by omega)]
      exact vm_walk h x3
  · have cw : wayB x1 x2 = true := by simp [wayB, c1, c2, c3]
    unfold sp_path sq_path
    rw [if_pos cw, if_neg (by rw [d]; decide), if_neg (by rw [d]; simp)]
    exact ⟨rfl, h, hk⟩
theorem sg_X8_pathTold_0 {G : GW} {K : Option Value → Mem → Prop} {μ : Mem} {x1 x2 : Int32}  (h : (((inB x1 0 6) = false) → K (some (.int (-5))) μ) ∧ (((inB x1 0 6) = true) → (((inB x2 0 6) = false) → K (some (.int (-5))) μ) ∧ (((inB x2 0 6) = true) → (vp_in ((7 * x1) + x2) 49) ∧ K (some (.int (μ 83 ((7 * x1) + x2).toNatClampNeg))) μ))) : Ev2 G mX8_pathTold 3 0 [(0, .ref 82), (1, .int x1), (2, .int x2)] [] μ K := by
  refine ev_iload_n dX8_pathTold_0 1 rfl ?_
  refine e2_callS (w := .int (bi (inB x1 0 6))) (μ1 := μ) (as := [.int x1]) (st := []) ok_X8_isPlace sv_X8_isPlace ml_8_18 dX8_pathTold_1 rfl rfl (Nat.le_of_ble_eq_true rfl) (Nat.le_of_ble_eq_true rfl) (by decide) (ct_X8_isPlace (x1) μ) ?_
  refine ev_ifeq_bi (tgt := 28) dX8_pathTold_4 rfl (fun c1 => ?_) (fun c1 => ?_)
  · have h2 := h.1 c1
    refine ev_bipush (v := (-5)) dX8_pathTold_28 rfl ?_
    exact ev_ireturn dX8_pathTold_30 rfl True.intro rfl rfl ⟨rfl, h2⟩
  · have h3 := h.2 c1
    refine ev_iload_n dX8_pathTold_7 2 rfl ?_
    refine e2_callS (w := .int (bi (inB x2 0 6))) (μ1 := μ) (as := [.int x2]) (st := []) ok_X8_isPlace sv_X8_isPlace ml_8_18 dX8_pathTold_8 rfl rfl (Nat.le_of_ble_eq_true rfl) (Nat.le_of_ble_eq_true rfl) (by decide) (ct_X8_isPlace (x2) μ) ?_
    refine ev_ifeq_bi (tgt := 28) dX8_pathTold_11 rfl (fun c4 => ?_) (fun c4 => ?_)
    · have h5 := h3.1 c4
      refine ev_bipush (v := (-5)) dX8_pathTold_28 rfl ?_
      exact ev_ireturn dX8_pathTold_30 rfl True.intro rfl rfl ⟨rfl, h5⟩
    · have h6 := h3.2 c4
      refine ev_aload_n dX8_pathTold_14 0 rfl (by decide) ?_
      refine ev_getR' fl_8_14 rfl kd_82 rf_82_0 dX8_pathTold_15 ?_
      refine ev_bipush (v := 7) dX8_pathTold_18 rfl ?_
      refine ev_iload_n dX8_pathTold_20 1 rfl ?_
      refine ev_imul dX8_pathTold_21 ?_
      refine ev_iload_n dX8_pathTold_22 2 rfl ?_
      refine ev_iadd dX8_pathTold_23 ?_
      have p7 := h6.1
      have h8 := h6.2
      refine ev_iaload' (v := (μ 83 ((7 * x1) + x2).toNatClampNeg)) kd_83 ln_83 p7 rfl dX8_pathTold_24 ?_
      refine ev_goto (tgt := 30) dX8_pathTold_25 rfl ?_
      exact ev_ireturn dX8_pathTold_30 rfl True.intro rfl rfl ⟨rfl, h8⟩
theorem pb_X8_pathTold {G : GW} {α μ : Mem} (hf : WF α) (h : VM α μ) (x1 x2 : Int32) : pubM G mX8_pathTold 3 [(0, .ref 82), (1, .int x1), (2, .int x2)] α μ (.int (sp_pathTold α x1 x2)) α := by
  have hk := keepX.rf μ
  unfold sp_pathTold
  refine sg_X8_pathTold_0 ⟨fun c => ?_, fun c1 => ⟨fun c => ?_, fun c2 => ?_⟩⟩
  · rw [if_neg (by rw [c]; simp)]
    exact ⟨rfl, h, hk⟩
  · rw [if_neg (by rw [c]; simp)]
    exact ⟨rfl, h, hk⟩
  · rw [if_pos ⟨c1, c2⟩]
    obtain ⟨a, ha, rfl⟩ := inB_p c1
    obtain ⟨b, hb, rfl⟩ := inB_p c2
    obtain ⟨q1, q2⟩ := ix_7 ha hb
    rw [q2, ix_nI (by omega), ix_nI (by omega), h.2.1 _ (by omega)]
    exact ⟨q1, rfl, h, hk⟩
theorem vm_ride {α μ : Mem} (hf : WF α) (h : VM α μ) (x1 x2 : Int32) (hlt : aR α < 4) : VM (mset (mset (mset α 2 (aR α) x1) 3 (aR α) x2) 0 1 (nI (aR α + 1))) (mset (mset (mset μ 84 (aR α) x1) 85 (aR α) x2) 82 1 (nI (aR α + 1))) := by
  obtain ⟨vc, vw, vr, vh, vt, vx, vi, vs, vk⟩ := h
  have e : ∀ r, r ≠ 0 ∧ r ≠ 2 ∧ r ≠ 3 → mset (mset (mset α 2 (aR α) x1) 3 (aR α) x2) 0 1 (nI (aR α + 1)) r = α r := fun r h => by rw [mset_ne h.1, mset_ne h.2.2, mset_ne h.2.1]
  have e0 : ∀ k, k ≠ 1 → mset (mset (mset α 2 (aR α) x1) 3 (aR α) x2) 0 1 (nI (aR α + 1)) 0 k = α 0 k := fun k h => by rw [mset_other (by omega), mset_other (by omega), mset_other (by omega)]
  have n : ∀ r, r ≠ 82 ∧ r ≠ 84 ∧ r ≠ 85 → mset (mset (mset μ 84 (aR α) x1) 85 (aR α) x2) 82 1 (nI (aR α + 1)) r = μ r := fun r h => by rw [mset_ne h.1, mset_ne h.2.2, mset_ne h.2.1]
  have n0 : ∀ k, k ≠ 1 → mset (mset (mset μ 84 (aR α) x1) 85 (aR α) x2) 82 1 (nI (aR α + 1)) 82 k = μ 82 k := fun k h => by rw [mset_other (by omega), mset_other (by omega), mset_other (by omega)]
  refine ⟨⟨?_, ?_, ?_, ?_, ?_⟩, ?_, ?_, ?_, ?_, ?_, ?_, ?_, ?_⟩
  · rw [n0 4 (by omega), e0 0 (by omega)]; exact vc.1
  · rw [mset_same, mset_same]
  · rw [n0 13 (by omega), e0 2 (by omega)]; exact vc.2.2.1
  · rw [n0 14 (by omega), e0 3 (by omega)]; exact vc.2.2.2.1
  · rw [n0 12 (by omega), e0 4 (by omega)]; exact vc.2.2.2.2
  · exact vw.eq (e 1 (by omega)) (n 83 (by omega))
  · intro i hi
    have eaR : aR (mset (mset (mset α 2 (aR α) x1) 3 (aR α) x2) 0 1 (nI (aR α + 1))) = aR α + 1 := by
      show (mset (mset (mset α 2 (aR α) x1) 3 (aR α) x2) 0 1 (nI (aR α + 1)) 0 1).toNatClampNeg = _
      rw [mset_same, ix_nI (by omega)]
    rw [eaR] at hi
    by_cases c : i = aR α
    · subst c
      constructor <;> simp (disch := omega) only [mset_same, mset_other]
    · rw [mset_other (by omega), mset_other (by omega), mset_other (by omega), mset_other (by omega), mset_other (by omega), mset_other (by omega), mset_other (by omega), mset_other (by omega), mset_other (by omega), mset_other (by omega), mset_other (by omega), mset_other (by omega)]
      exact vr i (by omega)
  · exact vh.eq (e0 0 (by omega)) (fun f _ => e (4 + f) (by omega)) (fun f _ => n (86 + f) (by omega))
  · exact vt.eq (e0 4 (by omega)) (e 10 (by omega)) (n 92 (by omega))
  · exact vx.eq (e0 2 (by omega)) (e 17 (by omega)) (e 18 (by omega)) (n 93 (by omega)) (n 94 (by omega))
  · exact vi.eq (e 11 (by omega)) (e 12 (by omega)) (e 13 (by omega)) (fun k _ => n0 k (by omega)) (n 107 (by omega)) (n 108 (by omega))
  · exact vs.eq (e 14 (by omega)) (e 15 (by omega)) (e 16 (by omega)) (n 109 (by omega)) (n 110 (by omega)) (n 111 (by omega))
  · exact vk.eq (n 95 (by omega)) (n 96 (by omega))
theorem sg_X8_ride_0 {G : GW} {K : Option Value → Mem → Prop} {μ : Mem} {x1 x2 : Int32}  (h : (((inB x1 0 6) = false) → K (some (.int (-2))) μ) ∧ (((inB x1 0 6) = true) → (((inB x2 0 6) = false) → K (some (.int (-2))) μ) ∧ (((inB x2 0 6) = true) → ((¬ x1 = x2) → ((¬ (μ 82 1) = 4) → (vp_in (μ 82 1) 4) ∧ (vp_in (μ 82 1) 4) ∧ K (some (.int (((μ 82 1) + 1) - 1))) (mset (mset (mset μ 84 (μ 82 1).toNatClampNeg x1) 85 (μ 82 1).toNatClampNeg x2) 82 1 ((μ 82 1) + 1))) ∧ (((μ 82 1) = 4) → K (some (.int (-4))) μ)) ∧ ((x1 = x2) → K (some (.int (-2))) μ)))) : Ev2 G mX8_ride 3 0 [(0, .ref 82), (1, .int x1), (2, .int x2)] [] μ K := by
  refine ev_iload_n dX8_ride_0 1 rfl ?_
  refine e2_callS (w := .int (bi (inB x1 0 6))) (μ1 := μ) (as := [.int x1]) (st := []) ok_X8_isPlace sv_X8_isPlace ml_8_18 dX8_ride_1 rfl rfl (Nat.le_of_ble_eq_true rfl) (Nat.le_of_ble_eq_true rfl) (by decide) (ct_X8_isPlace (x1) μ) ?_
  refine ev_ifeq_bi (tgt := 19) dX8_ride_4 rfl (fun c1 => ?_) (fun c1 => ?_)
  · have h2 := h.1 c1
    refine ev_bipush (v := (-2)) dX8_ride_19 rfl ?_
    exact ev_ireturn dX8_ride_21 rfl True.intro rfl rfl ⟨rfl, h2⟩
  · have h3 := h.2 c1
    refine ev_iload_n dX8_ride_7 2 rfl ?_
    refine e2_callS (w := .int (bi (inB x2 0 6))) (μ1 := μ) (as := [.int x2]) (st := []) ok_X8_isPlace sv_X8_isPlace ml_8_18 dX8_ride_8 rfl rfl (Nat.le_of_ble_eq_true rfl) (Nat.le_of_ble_eq_true rfl) (by decide) (ct_X8_isPlace (x2) μ) ?_
    refine ev_ifeq_bi (tgt := 19) dX8_ride_11 rfl (fun c4 => ?_) (fun c4 => ?_)
    · have h5 := h3.1 c4
      refine ev_bipush (v := (-2)) dX8_ride_19 rfl ?_
      exact ev_ireturn dX8_ride_21 rfl True.intro rfl rfl ⟨rfl, h5⟩
    · have h6 := h3.2 c4
      refine ev_iload_n dX8_ride_14 1 rfl ?_
      refine ev_iload_n dX8_ride_15 2 rfl ?_
      refine ev_icmp_ne (tgt := 22) dX8_ride_16 rfl (fun c7 => ?_) (fun c7 => ?_)
      · have h8 := h6.1 c7
        refine ev_aload_n dX8_ride_22 0 rfl (by decide) ?_
        refine ev_getI' (v := (μ 82 1)) fl_8_11 rfl kd_82 rfl dX8_ride_23 ?_
        refine ev_iconst (v := 4) dX8_ride_26 rfl ?_
        refine ev_icmp_ne (tgt := 33) dX8_ride_27 rfl (fun c10 => ?_) (fun c10 => ?_)
        · have h11 := h8.1 c10
          refine ev_aload_n dX8_ride_33 0 rfl (by decide) ?_
          refine ev_getR' fl_8_26 rfl kd_82 rf_82_2 dX8_ride_34 ?_
          refine ev_aload_n dX8_ride_37 0 rfl (by decide) ?_
          refine ev_getI' (v := (μ 82 1)) fl_8_11 rfl kd_82 rfl dX8_ride_38 ?_
          refine ev_iload_n dX8_ride_41 1 rfl ?_
          have p13 := h11.1
          have h14 := h11.2
          refine ev_iastore' (j := (μ 82 1).toNatClampNeg) kd_84 ln_84 p13 rfl dX8_ride_42 ?_
          refine ev_aload_n dX8_ride_43 0 rfl (by decide) ?_
          refine ev_getR' fl_8_29 rfl kd_82 rf_82_3 dX8_ride_44 ?_
          refine ev_aload_n dX8_ride_47 0 rfl (by decide) ?_
          refine ev_getI' (v := (μ 82 1)) fl_8_11 rfl kd_82 rfl dX8_ride_48 ?_
          refine ev_iload_n dX8_ride_51 2 rfl ?_
          have p15 := h14.1
          have h16 := h14.2
          refine ev_iastore' (j := (μ 82 1).toNatClampNeg) kd_85 ln_85 p15 rfl dX8_ride_52 ?_
          refine ev_aload_n dX8_ride_53 0 rfl (by decide) ?_
          refine ev_dup dX8_ride_54 rfl ?_
          refine ev_getI' (v := (μ 82 1)) fl_8_11 rfl kd_82 rfl dX8_ride_55 ?_
          refine ev_iconst (v := 1) dX8_ride_58 rfl ?_
          refine ev_iadd dX8_ride_59 ?_
          refine ev_putI fl_8_11 ⟨rfl, rfl, rfl⟩ (fun r hr => by cases hr; rfl) kd_82 dX8_ride_60 ?_
          refine ev_aload_n dX8_ride_63 0 rfl (by decide) ?_
          refine ev_getI' (v := ((μ 82 1) + 1)) fl_8_11 rfl kd_82 rfl dX8_ride_64 ?_
          refine ev_iconst (v := 1) dX8_ride_67 rfl ?_
          refine ev_isub dX8_ride_68 ?_
          exact ev_ireturn dX8_ride_69 rfl True.intro rfl rfl ⟨rfl, h16⟩
        · have h12 := h8.2 c10
          refine ev_bipush (v := (-4)) dX8_ride_30 rfl ?_
          exact ev_ireturn dX8_ride_32 rfl True.intro rfl rfl ⟨rfl, h12⟩
      · have h9 := h6.2 c7
        refine ev_bipush (v := (-2)) dX8_ride_19 rfl ?_
        exact ev_ireturn dX8_ride_21 rfl True.intro rfl rfl ⟨rfl, h9⟩
theorem pb_X8_ride {G : GW} {α μ : Mem} (hf : WF α) (h : VM α μ) (x1 x2 : Int32) : pubM G mX8_ride 3 [(0, .ref 82), (1, .int x1), (2, .int x2)] α μ (.int (sp_ride α x1 x2)) (sq_ride α x1 x2) := by
  have hk := keepX.rf μ
  have cR : μ 82 1 = α 0 1 := h.1.2.1
  obtain ⟨hR, hR4⟩ := hf.1.2.1
  have no : wayB x1 x2 = false → (some (Value.int (-2)) = some (Value.int (sp_ride α x1 x2)) ∧ VM (sq_ride α x1 x2) μ ∧ keepX μ μ) := fun c => by
    unfold sp_ride sq_ride
    rw [if_neg (by rw [c]; decide), if_neg (by rw [c]; simp)]
    exact ⟨rfl, h, hk⟩
  refine sg_X8_ride_0 ⟨fun c => no (by simp [wayB, c]), fun c1 => ⟨fun c => no (by simp [wayB, c]), fun c2 => ⟨fun c3 => ?_, fun c => no (by simp [wayB, c])⟩⟩⟩
  have cw : wayB x1 x2 = true := by simp [wayB, c1, c2, c3]
  unfold sp_ride sq_ride
  rw [cR, hR, if_pos cw, ix_nI (by omega), nI_1, nI_pred]
  refine ⟨fun d => ?_, fun d => ?_⟩
  · have hlt : aR α < 4 := by
      rcases Nat.lt_or_ge (aR α) 4 with q | q
      · exact q
      · exact absurd (show nI (aR α) = 4 by rw [show aR α = 4 by omega]; rfl) d
    have c4 : nI (aR α) < 4 := nI_lt (b := 4) hlt (by omega)
    rw [if_pos c4, if_pos ⟨cw, c4⟩]
    have hv : vp_in (nI (aR α)) 4 := vp_nI hlt (by omega)
    exact ⟨hv, hv, rfl, vm_ride hf h x1 x2 hlt, ((keepX.set (by omega)).tr (keepX.set (by omega))).tr (keepX.set (by omega))⟩
  · have c4 : ¬ nI (aR α) < 4 := by rw [d]; decide
    rw [if_neg c4, if_neg (fun q => c4 q.2)]
    exact ⟨rfl, h, hk⟩
theorem sg_X8_rideTold_0 {G : GW} {K : Option Value → Mem → Prop} {μ : Mem} {x1 x2 : Int32}  (h : (((inB x1 0 (μ 82 1 - 1)) = true) → ((¬ x2 = 0) → ((¬ x2 = 1) → K (some (.int (-7))) μ) ∧ ((x2 = 1) → (vp_in x1 4) ∧ K (some (.int (μ 85 x1.toNatClampNeg))) μ)) ∧ ((x2 = 0) → (vp_in x1 4) ∧ K (some (.int (μ 84 x1.toNatClampNeg))) μ)) ∧ (((inB x1 0 (μ 82 1 - 1)) = false) → K (some (.int (-5))) μ)) : Ev2 G mX8_rideTold 3 0 [(0, .ref 82), (1, .int x1), (2, .int x2)] [] μ K := by
  refine ev_aload_n dX8_rideTold_0 0 rfl (by decide) ?_
  refine ev_iload_n dX8_rideTold_1 1 rfl ?_
  refine e2_callV (w := .int (bi (inB x1 0 (μ 82 1 - 1)))) (μ1 := μ) (a := 82) (as := [.int x1]) (st := []) ok_X8_isRide vi_X8_isRide ml_8_32 hcl_8 kd_82 dX8_rideTold_2 rfl rfl (Nat.le_of_ble_eq_true rfl) (Nat.le_of_ble_eq_true rfl) (by decide) (ct_X8_isRide (x1) μ) ?_
  refine ev_ifne_bi (tgt := 11) dX8_rideTold_5 rfl (fun c1 => ?_) (fun c1 => ?_)
  · have h2 := h.1 c1
    refine ev_iload_n dX8_rideTold_11 2 rfl ?_
    refine ev_if_ne (tgt := 24) dX8_rideTold_12 rfl (fun c4 => ?_) (fun c4 => ?_)
    · have h5 := h2.1 c4
      refine ev_iload_n dX8_rideTold_24 2 rfl ?_
      refine ev_iconst (v := 1) dX8_rideTold_25 rfl ?_
      refine ev_icmp_ne (tgt := 38) dX8_rideTold_26 rfl (fun c7 => ?_) (fun c7 => ?_)
      · have h8 := h5.1 c7
        refine ev_bipush (v := (-7)) dX8_rideTold_38 rfl ?_
        exact ev_ireturn dX8_rideTold_40 rfl True.intro rfl rfl ⟨rfl, h8⟩
      · have h9 := h5.2 c7
        refine ev_aload_n dX8_rideTold_29 0 rfl (by decide) ?_
        refine ev_getR' fl_8_29 rfl kd_82 rf_82_3 dX8_rideTold_30 ?_
        refine ev_iload_n dX8_rideTold_33 1 rfl ?_
        have p10 := h9.1
        have h11 := h9.2
        refine ev_iaload' (v := (μ 85 x1.toNatClampNeg)) kd_85 ln_85 p10 rfl dX8_rideTold_34 ?_
        refine ev_goto (tgt := 40) dX8_rideTold_35 rfl ?_
        exact ev_ireturn dX8_rideTold_40 rfl True.intro rfl rfl ⟨rfl, h11⟩
    · have h6 := h2.2 c4
      refine ev_aload_n dX8_rideTold_15 0 rfl (by decide) ?_
      refine ev_getR' fl_8_26 rfl kd_82 rf_82_2 dX8_rideTold_16 ?_
      refine ev_iload_n dX8_rideTold_19 1 rfl ?_
      have p12 := h6.1
      have h13 := h6.2
      refine ev_iaload' (v := (μ 84 x1.toNatClampNeg)) kd_84 ln_84 p12 rfl dX8_rideTold_20 ?_
      refine ev_goto (tgt := 40) dX8_rideTold_21 rfl ?_
      exact ev_ireturn dX8_rideTold_40 rfl True.intro rfl rfl ⟨rfl, h13⟩
  · have h3 := h.2 c1
    refine ev_bipush (v := (-5)) dX8_rideTold_8 rfl ?_
    exact ev_ireturn dX8_rideTold_10 rfl True.intro rfl rfl ⟨rfl, h3⟩
theorem pb_X8_rideTold {G : GW} {α μ : Mem} (hf : WF α) (h : VM α μ) (x1 x2 : Int32) : pubM G mX8_rideTold 3 [(0, .ref 82), (1, .int x1), (2, .int x2)] α μ (.int (sp_rideTold α x1 x2)) α := by
  have hk := keepX.rf μ
  have cR : μ 82 1 = α 0 1 := h.1.2.1
  unfold sp_rideTold
  refine sg_X8_rideTold_0 ?_
  rw [cR]
  refine ⟨fun c => ?_, fun c => ?_⟩
  · rw [if_pos c]
    obtain ⟨i, hi, hi4, rfl⟩ := vR' hf c
    have hv : vp_in (nI i) 4 := vp_nI hi4 (by omega)
    obtain ⟨r1, r2⟩ := h.2.2.1 i hi
    rw [ix_nI (by omega), r1, r2]
    refine ⟨fun c0 => ⟨fun c1 => ?_, fun c1 => ?_⟩, fun c0 => ?_⟩
    · rw [if_neg c0, if_neg c1]
      exact ⟨rfl, h, hk⟩
    · rw [if_neg c0, if_pos c1]
      exact ⟨hv, rfl, h, hk⟩
    · rw [if_pos c0]
      exact ⟨hv, rfl, h, hk⟩
  · rw [if_neg (by rw [c]; decide)]
    exact ⟨rfl, h, hk⟩
/-! horses -/
theorem vm_new {α μ : Mem} (hf : WF α) (h : VM α μ) (hn : aN α < 7) (k f t td m : Int32) : VM (newA α k f t td m) (mset (horseN μ (aN α) k f t td m) 82 4 (nI (aN α + 1))) ∧ keepX μ (mset (horseN μ (aN α) k f t td m) 82 4 (nI (aN α + 1))) := by
  obtain ⟨vc, vw, vr, vh, vt, vx, vi, vs, vk⟩ := h
  have e : ∀ r, r ≠ 0 ∧ (r < 4 ∨ 9 < r) → newA α k f t td m r = α r := fun r h => newA_row h.1 h.2
  have e0 : ∀ j, j ≠ 0 → newA α k f t td m 0 j = α 0 j := fun j h => newA_0 h
  obtain ⟨g0, gN⟩ := newA_n hf.1 (k := k) (f := f) (t := t) (td := td) (m := m)
  obtain ⟨a1, a2, a3, a4, a5, a6⟩ := newA_at (α := α) (k := k) (f := f) (t := t) (td := td) (m := m)
  have nh : ∀ r, r < 86 ∨ 91 < r → horseN μ (aN α) k f t td m r = μ r := fun r h => by unfold horseN; simp (disch := omega) only [mset_ne]
  have n : ∀ r, r ≠ 82 ∧ (r < 86 ∨ 91 < r) → mset (horseN μ (aN α) k f t td m) 82 4 (nI (aN α + 1)) r = μ r := fun r h => by rw [mset_ne h.1, nh r h.2]
  have n0 : ∀ j, j ≠ 4 → mset (horseN μ (aN α) k f t td m) 82 4 (nI (aN α + 1)) 82 j = μ 82 j := fun j h => by rw [mset_other (by omega), nh 82 (by omega)]
  refine ⟨⟨⟨?_, ?_, ?_, ?_, ?_⟩, ?_, ?_, ?_, ?_, ?_, ?_, ?_, ?_⟩, fun r hr => n r (by omega)⟩
  · rw [mset_same, g0]
  · rw [n0 1 (by omega), e0 1 (by omega)]; exact vc.2.1
  · rw [n0 13 (by omega), e0 2 (by omega)]; exact vc.2.2.1
  · rw [n0 14 (by omega), e0 3 (by omega)]; exact vc.2.2.2.1
  · rw [n0 12 (by omega), e0 4 (by omega)]; exact vc.2.2.2.2
  · exact vw.eq (e 1 (by omega)) (n 83 (by omega))
  · exact vr.eq (e0 1 (by omega)) (e 2 (by omega)) (e 3 (by omega)) (n 84 (by omega)) (n 85 (by omega))
  · intro i hi j hj
    rw [gN] at hi
    rw [mset_ne (by omega)]
    by_cases c : i = aN α
    · subst c
      have hc : horseN μ (aN α) k f t td m 86 (aN α) = k ∧ horseN μ (aN α) k f t td m 87 (aN α) = f ∧ horseN μ (aN α) k f t td m 88 (aN α) = t ∧ horseN μ (aN α) k f t td m 89 (aN α) = td ∧ horseN μ (aN α) k f t td m 90 (aN α) = m ∧ horseN μ (aN α) k f t td m 91 (aN α) = 0 := by
        unfold horseN
        refine ⟨?_, ?_, ?_, ?_, ?_, ?_⟩ <;> simp (disch := omega) only [mset_same, mset_other]
      obtain ⟨b1, b2, b3, b4, b5, b6⟩ := hc
      rcases (show j = 0 ∨ j = 1 ∨ j = 2 ∨ j = 3 ∨ j = 4 ∨ j = 5 by omega) with rfl | rfl | rfl | rfl | rfl | rfl
      · exact b1.trans a1.symm
      · exact b2.trans a2.symm
      · exact b3.trans a3.symm
      · exact b4.trans a4.symm
      · exact b5.trans a5.symm
      · exact b6.trans a6.symm
    · rw [newA_oth (by omega) c]
      have : horseN μ (aN α) k f t td m (86 + j) i = μ (86 + j) i := by
        unfold horseN
        simp (disch := omega) only [mset_other]
      rw [this]
      exact vh i (by omega) j hj
  · exact vt.eq (e0 4 (by omega)) (e 10 (by omega)) (n 92 (by omega))
  · exact vx.eq (e0 2 (by omega)) (e 17 (by omega)) (e 18 (by omega)) (n 93 (by omega)) (n 94 (by omega))
  · exact vi.eq (e 11 (by omega)) (e 12 (by omega)) (e 13 (by omega)) (fun k _ => n0 k (by omega)) (n 107 (by omega)) (n 108 (by omega))
  · exact vs.eq (e 14 (by omega)) (e 15 (by omega)) (e 16 (by omega)) (n 109 (by omega)) (n 110 (by omega)) (n 111 (by omega))
  · exact vk.eq (n 95 (by omega)) (n 96 (by omega))
theorem asB_of {k ft td m : Int32} (h1 : inB k 0 5 = true) (h2 : ¬ ft < 0) (h3 : inB (ft / 10) 0 6 = true) (h4 : inB (ft - ft / 10 * 10) 0 6 = true) (h5 : ¬ ft / 10 = ft - ft / 10 * 10) (h6 : inB td 1 999 = true) (h7 : inB m 0 9 = true) : asB k ft td m = true := by
  obtain ⟨j, hj, rfl⟩ := nI_of h2
  have e : nI j / 10 = nI (j / 10) := pk_div (d := 10) hj (by omega) (by omega)
  have hle : inB (nI j) 0 70 = true := by
    rw [e] at h3
    obtain ⟨p, hp, ep⟩ := inB_p h3
    have := (nI_eq (by omega) (by omega)).mp ep
    exact inB_of (m := 70) (by omega) (by omega)
  unfold asB wayB irem
  rw [h1, hle, h3, h4, h6, h7, decide_eq_false h5]
  rfl
theorem asB_ft {k ft td m : Int32} (h : asB k ft td m = true) : ¬ ft < 0 := by
  simp only [asB, Bool.and_eq_true] at h
  exact Int32.not_lt.mpr (inB_t.mp h.2.1).1
theorem sg_X8_horse_0 {G : GW} {K : Option Value → Mem → Prop} {μ : Mem} {x1 x2 x3 x4 : Int32}  (h : (((inB x1 (0 : Int32) (5 : Int32)) = false) → K (some (.int (-2))) μ) ∧ (((inB x1 (0 : Int32) (5 : Int32)) = true) → ((x2 < 0) → K (some (.int (-2))) μ) ∧ ((¬ (x2 < 0)) → (((inB (x2 / 10) 0 6) = false) → K (some (.int (-2))) μ) ∧ (((inB (x2 / 10) 0 6) = true) → (((inB (x2 - x2 / 10 * 10) 0 6) = false) → K (some (.int (-2))) μ) ∧ (((inB (x2 - x2 / 10 * 10) 0 6) = true) → (((x2 / 10) = (x2 - x2 / 10 * 10)) → K (some (.int (-2))) μ) ∧ ((¬ ((x2 / 10) = (x2 - x2 / 10 * 10))) → (((inB x3 (1 : Int32) (999 : Int32)) = false) → K (some (.int (-2))) μ) ∧ (((inB x3 (1 : Int32) (999 : Int32)) = true) → (((inB x4 (0 : Int32) (9 : Int32)) = true) → ((¬ (μ 82 4) = 7) → (vp_in (μ 82 4) 8) ∧ K (some (.int ((((horseN μ (μ 82 4).toNatClampNeg x1 (x2 / 10) (x2 - x2 / 10 * 10) x3 x4) 82 4) + 1) - 1))) (mset (horseN μ (μ 82 4).toNatClampNeg x1 (x2 / 10) (x2 - x2 / 10 * 10) x3 x4) 82 4 (((horseN μ (μ 82 4).toNatClampNeg x1 (x2 / 10) (x2 - x2 / 10 * 10) x3 x4) 82 4) + 1))) ∧ (((μ 82 4) = 7) → K (some (.int (-4))) μ)) ∧ (((inB x4 (0 : Int32) (9 : Int32)) = false) → K (some (.int (-2))) μ)))))))) : Ev2 G mX8_horse 3 0 [(0, .ref 82), (1, .int x1), (2, .int x2), (3, .int x3), (4, .int x4)] [] μ K := by
  refine ev_iload_n dX8_horse_0 2 rfl ?_
  refine ev_bipush (v := 10) dX8_horse_1 rfl ?_
  refine ev_idiv dX8_horse_3 (by decide) ?_
  refine ev_istore (lv' := [(0, .ref 82), (1, .int x1), (2, .int x2), (3, .int x3), (4, .int x4), (5, .int (x2 / 10))]) dX8_horse_4 (by decide) [1, 2, 3, 4, 5, 0] rfl ?_
  refine ev_iload_n dX8_horse_6 2 rfl ?_
  refine ev_bipush (v := 10) dX8_horse_7 rfl ?_
  refine ev_irem dX8_horse_9 (by decide) ?_
  refine ev_istore (lv' := [(0, .ref 82), (1, .int x1), (2, .int x2), (3, .int x3), (4, .int x4), (5, .int (x2 / 10)), (6, .int (x2 - x2 / 10 * 10))]) dX8_horse_10 (by decide) [1, 2, 3, 4, 5, 6, 0] rfl ?_
  refine ev_iload_n dX8_horse_12 1 rfl ?_
  refine ev_iconst (v := 0) dX8_horse_13 rfl ?_
  refine ev_iconst (v := 5) dX8_horse_14 rfl ?_
  refine e2_callS (w := .int (bi (inB x1 (0 : Int32) (5 : Int32)))) (μ1 := μ) (as := [.int x1, .int 0, .int 5]) (st := []) ok_X8_isIn sv_X8_isIn ml_8_3 dX8_horse_15 rfl rfl (Nat.le_of_ble_eq_true rfl) (Nat.le_of_ble_eq_true rfl) (by decide) (ct_X8_isIn (x1) (0) (5) μ) ?_
  refine ev_ifeq_bi (tgt := 70) dX8_horse_18 rfl (fun c1 => ?_) (fun c1 => ?_)
  · have h2 := h.1 c1
    refine ev_bipush (v := (-2)) dX8_horse_70 rfl ?_
    exact ev_ireturn dX8_horse_72 rfl True.intro rfl rfl ⟨rfl, h2⟩
  · have h3 := h.2 c1
    refine ev_iload_n dX8_horse_21 2 rfl ?_
    refine ev_if_lt (tgt := 70) dX8_horse_22 rfl (fun c4 => ?_) (fun c4 => ?_)
    · have h5 := h3.1 c4
      refine ev_bipush (v := (-2)) dX8_horse_70 rfl ?_
      exact ev_ireturn dX8_horse_72 rfl True.intro rfl rfl ⟨rfl, h5⟩
    · have h6 := h3.2 c4
      refine ev_iload dX8_horse_25 5 rfl ?_
      refine e2_callS (w := .int (bi (inB (x2 / 10) 0 6))) (μ1 := μ) (as := [.int (x2 / 10)]) (st := []) ok_X8_isPlace sv_X8_isPlace ml_8_18 dX8_horse_27 rfl rfl (Nat.le_of_ble_eq_true rfl) (Nat.le_of_ble_eq_true rfl) (by decide) (ct_X8_isPlace ((x2 / 10)) μ) ?_
      refine ev_ifeq_bi (tgt := 70) dX8_horse_30 rfl (fun c7 => ?_) (fun c7 => ?_)
      · have h8 := h6.1 c7
        refine ev_bipush (v := (-2)) dX8_horse_70 rfl ?_
        exact ev_ireturn dX8_horse_72 rfl True.intro rfl rfl ⟨rfl, h8⟩
      · have h9 := h6.2 c7
        refine ev_iload dX8_horse_33 6 rfl ?_
        refine e2_callS (w := .int (bi (inB (x2 - x2 / 10 * 10) 0 6))) (μ1 := μ) (as := [.int (x2 - x2 / 10 * 10)]) (st := []) ok_X8_isPlace sv_X8_isPlace ml_8_18 dX8_horse_35 rfl rfl (Nat.le_of_ble_eq_true rfl) (Nat.le_of_ble_eq_true rfl) (by decide) (ct_X8_isPlace ((x2 - x2 / 10 * 10)) μ) ?_
        refine ev_ifeq_bi (tgt := 70) dX8_horse_38 rfl (fun c10 => ?_) (fun c10 => ?_)
        · have h11 := h9.1 c10
          refine ev_bipush (v := (-2)) dX8_horse_70 rfl ?_
          exact ev_ireturn dX8_horse_72 rfl True.intro rfl rfl ⟨rfl, h11⟩
        · have h12 := h9.2 c10
          refine ev_iload dX8_horse_41 5 rfl ?_
          refine ev_iload dX8_horse_43 6 rfl ?_
          refine ev_icmp_eq (tgt := 70) dX8_horse_45 rfl (fun c13 => ?_) (fun c13 => ?_)
          · have h14 := h12.1 c13
            refine ev_bipush (v := (-2)) dX8_horse_70 rfl ?_
            exact ev_ireturn dX8_horse_72 rfl True.intro rfl rfl ⟨rfl, h14⟩
          · have h15 := h12.2 c13
            refine ev_iload_n dX8_horse_48 3 rfl ?_
            refine ev_iconst (v := 1) dX8_horse_49 rfl ?_
            refine ev_sipush (v := 999) dX8_horse_50 rfl ?_
            refine e2_callS (w := .int (bi (inB x3 (1 : Int32) (999 : Int32)))) (μ1 := μ) (as := [.int x3, .int 1, .int 999]) (st := []) ok_X8_isIn sv_X8_isIn ml_8_3 dX8_horse_53 rfl rfl (Nat.le_of_ble_eq_true rfl) (Nat.le_of_ble_eq_true rfl) (by decide) (ct_X8_isIn (x3) (1) (999) μ) ?_
            refine ev_ifeq_bi (tgt := 70) dX8_horse_56 rfl (fun c16 => ?_) (fun c16 => ?_)
            · have h17 := h15.1 c16
              refine ev_bipush (v := (-2)) dX8_horse_70 rfl ?_
              exact ev_ireturn dX8_horse_72 rfl True.intro rfl rfl ⟨rfl, h17⟩
            · have h18 := h15.2 c16
              refine ev_iload dX8_horse_59 4 rfl ?_
              refine ev_iconst (v := 0) dX8_horse_61 rfl ?_
              refine ev_bipush (v := 9) dX8_horse_62 rfl ?_
              refine e2_callS (w := .int (bi (inB x4 (0 : Int32) (9 : Int32)))) (μ1 := μ) (as := [.int x4, .int 0, .int 9]) (st := []) ok_X8_isIn sv_X8_isIn ml_8_3 dX8_horse_64 rfl rfl (Nat.le_of_ble_eq_true rfl) (Nat.le_of_ble_eq_true rfl) (by decide) (ct_X8_isIn (x4) (0) (9) μ) ?_
              refine ev_ifne_bi (tgt := 73) dX8_horse_67 rfl (fun c19 => ?_) (fun c19 => ?_)
              · have h20 := h18.1 c19
                refine ev_aload_n dX8_horse_73 0 rfl (by decide) ?_
                refine ev_getI' (v := (μ 82 4)) fl_8_7 rfl kd_82 rfl dX8_horse_74 ?_
                refine ev_bipush (v := 7) dX8_horse_77 rfl ?_
                refine ev_icmp_ne (tgt := 85) dX8_horse_79 rfl (fun c22 => ?_) (fun c22 => ?_)
                · have h23 := h20.1 c22
                  refine ev_aload_n dX8_horse_85 0 rfl (by decide) ?_
                  refine ev_aload_n dX8_horse_86 0 rfl (by decide) ?_
                  refine ev_getI' (v := (μ 82 4)) fl_8_7 rfl kd_82 rfl dX8_horse_87 ?_
                  refine ev_iload_n dX8_horse_90 1 rfl ?_
                  refine ev_iload dX8_horse_91 5 rfl ?_
                  refine ev_iload dX8_horse_93 6 rfl ?_
                  refine ev_iload_n dX8_horse_95 3 rfl ?_
                  refine ev_iload dX8_horse_96 4 rfl ?_
                  have p25 := h23.1
                  have h26 := h23.2
                  refine e2_callVv (μ1 := (horseN μ (μ 82 4).toNatClampNeg x1 (x2 / 10) (x2 - x2 / 10 * 10) x3 x4)) (a := 82) (as := [.int (μ 82 4), .int x1, .int (x2 / 10), .int (x2 - x2 / 10 * 10), .int x3, .int x4]) (st := []) ok_X8_horseIs vi_X8_horseIs ml_8_53 hcl_8 kd_82 dX8_horse_98 rfl rfl (Nat.le_of_ble_eq_true rfl) (Nat.le_of_ble_eq_true rfl) (by decide) (ct_X8_horseIs ((μ 82 4)) (x1) ((x2 / 10)) ((x2 - x2 / 10 * 10)) (x3) (x4) μ p25) ?_
                  refine ev_aload_n dX8_horse_101 0 rfl (by decide) ?_
                  refine ev_dup dX8_horse_102 rfl ?_
                  refine ev_getI' (v := ((horseN μ (μ 82 4).toNatClampNeg x1 (x2 / 10) (x2 - x2 / 10 * 10) x3 x4) 82 4)) fl_8_7 rfl kd_82 rfl dX8_horse_103 ?_
                  refine ev_iconst (v := 1) dX8_horse_106 rfl ?_
                  refine ev_iadd dX8_horse_107 ?_
                  refine ev_putI fl_8_7 ⟨rfl, rfl, rfl⟩ (fun r hr => by cases hr; rfl) kd_82 dX8_horse_108 ?_
                  refine ev_aload_n dX8_horse_111 0 rfl (by decide) ?_
                  refine ev_getI' (v := (((horseN μ (μ 82 4).toNatClampNeg x1 (x2 / 10) (x2 - x2 / 10 * 10) x3 x4) 82 4) + 1)) fl_8_7 rfl kd_82 rfl dX8_horse_112 ?_
                  refine ev_iconst (v := 1) dX8_horse_115 rfl ?_
                  refine ev_isub dX8_horse_116 ?_
                  exact ev_ireturn dX8_horse_117 rfl True.intro rfl rfl ⟨rfl, h26⟩
                · have h24 := h20.2 c22
                  refine ev_bipush (v := (-4)) dX8_horse_82 rfl ?_
                  exact ev_ireturn dX8_horse_84 rfl True.intro rfl rfl ⟨rfl, h24⟩
              · have h21 := h18.2 c19
                refine ev_bipush (v := (-2)) dX8_horse_70 rfl ?_
                exact ev_ireturn dX8_horse_72 rfl True.intro rfl rfl ⟨rfl, h21⟩
theorem pb_X8_horse {G : GW} {α μ : Mem} (hf : WF α) (h : VM α μ) (x1 x2 x3 x4 : Int32) : pubM G mX8_horse 3 [(0, .ref 82), (1, .int x1), (2, .int x2), (3, .int x3), (4, .int x4)] α μ (.int (sp_horse α x1 x2 x3 x4)) (sq_horse α x1 x2 x3 x4) := by
  have hk := keepX.rf μ
  have cN : μ 82 4 = nI (aN α) := h.n hf
  have hN := hf.1.1.2
  have no : ¬ asB x1 x2 x3 x4 = true → (some (Value.int (-2)) = some (Value.int (sp_horse α x1 x2 x3 x4)) ∧ VM (sq_horse α x1 x2 x3 x4) μ ∧ keepX μ μ) := fun c => by
    unfold sp_horse sq_horse
    rw [if_neg c, if_neg (fun q => c q.1)]
    exact ⟨rfl, h, hk⟩
  have nf : ∀ {b : Bool}, b = false → ¬ b = true := fun h q => by rw [h] at q; cases q
  refine sg_X8_horse_0 ⟨fun c => no (by simp [asB, c]), fun c1 => ⟨fun c => no (fun q => asB_ft q c), fun c2 => ⟨fun c => no (by simp [asB, wayB, c]), fun c3 => ⟨fun c => no (by simp [asB, wayB, irem, c]), fun c4 => ⟨fun c => no (fun q => (asB_t q).2.2.2.1 c), fun c5 => ⟨fun c => no (by simp [asB, c]), fun c6 => ⟨fun c7 => ?_, fun c => no (by simp [asB, c])⟩⟩⟩⟩⟩⟩⟩
  have ca := asB_of c1 c2 c3 c4 c5 c6 c7
  unfold sp_horse sq_horse
  rw [cN, ix_nI (by omega)]
  have e82 : horseN μ (aN α) x1 (x2 / 10) (x2 - x2 / 10 * 10) x3 x4 82 4 = nI (aN α) := by
    unfold horseN
    simp (disch := omega) only [mset_other]
    exact cN
  rw [e82, nI_1, nI_pred, hf.1.1.1]
  refine ⟨fun d => ?_, fun d => ?_⟩
  · have hlt : aN α < 7 := by
      rcases Nat.lt_or_ge (aN α) 7 with q | q
      · exact q
      · exact absurd (show nI (aN α) = 7 by rw [show aN α = 7 by omega]; rfl) d
    have c4 : nI (aN α) < 7 := nI_lt (b := 7) hlt (by omega)
    rw [if_pos ca, if_pos c4, if_pos ⟨ca, c4⟩]
    obtain ⟨g1, g2⟩ := vm_new hf h hlt x1 (x2 / 10) (x2 - x2 / 10 * 10) x3 x4
    exact ⟨vp_nI (by omega) (by omega), rfl, g1, g2⟩
  · have c4 : ¬ nI (aN α) < 7 := by rw [d]; decide
    rw [if_pos ca, if_neg c4, if_neg (fun q => c4 q.2)]
    exact ⟨rfl, h, hk⟩
theorem vm_ready {α μ : Mem} (h : VM α μ) (i : Nat) (v : Int32) : VM (readyA α i v) (mset μ 91 i v) ∧ keepX μ (mset μ 91 i v) := by
  obtain ⟨vc, vw, vr, vh, vt, vx, vi, vs, vk⟩ := h
  have e : ∀ r, r ≠ 9 → readyA α i v r = α r := fun r h => mset_ne h
  have e0 : ∀ k, k < 100 → readyA α i v 0 k = α 0 k := fun k _ => by rw [e 0 (by omega)]
  have n : ∀ r, r ≠ 91 → mset μ 91 i v r = μ r := fun r h => mset_ne h
  have n0 : ∀ k, k < 100 → mset μ 91 i v 82 k = μ 82 k := fun k _ => by rw [n 82 (by omega)]
  refine ⟨⟨?_, ?_, ?_, ?_, ?_, ?_, ?_, ?_, ?_⟩, keepX.set (by omega)⟩
  · exact vc.eq (fun k _ => e0 k (by omega)) (fun k _ => n0 k (by omega))
  · exact vw.eq (e 1 (by omega)) (n 83 (by omega))
  · exact vr.eq (e0 1 (by omega)) (e 2 (by omega)) (e 3 (by omega)) (n 84 (by omega)) (n 85 (by omega))
  · intro j hj f hf
    have hj' : j < aN α := by
      unfold aN at hj ⊢
      rw [e0 0 (by omega)] at hj
      exact hj
    by_cases c : f = 5
    · subst c
      show mset μ 91 i v 91 j = readyA α i v 9 j
      unfold readyA
      by_cases cj : j = i
      · rw [cj, mset_same, mset_same]
      · rw [mset_other (by omega), mset_other (by omega)]
        exact vh j hj' 5 (by omega)
    · rw [e (4 + f) (by omega), n (86 + f) (by omega)]
      exact vh j hj' f hf
  · exact vt.eq (e0 4 (by omega)) (e 10 (by omega)) (n 92 (by omega))
  · exact vx.eq (e0 2 (by omega)) (e 17 (by omega)) (e 18 (by omega)) (n 93 (by omega)) (n 94 (by omega))
  · exact vi.eq (e 11 (by omega)) (e 12 (by omega)) (e 13 (by omega)) (fun k _ => n0 k (by omega)) (n 107 (by omega)) (n 108 (by omega))
  · exact vs.eq (e 14 (by omega)) (e 15 (by omega)) (e 16 (by omega)) (n 109 (by omega)) (n 110 (by omega)) (n 111 (by omega))
  · exact vk.eq (n 95 (by omega)) (n 96 (by omega))
theorem sg_X8_stand_0 {G : GW} {K : Option Value → Mem → Prop} {μ : Mem} {x1 x2 : Int32}  (h : (((inB x1 0 (μ 82 4 - 1)) = true) → (((inB x2 (0 : Int32) (999 : Int32)) = true) → (vp_in x1 8) ∧ (vp_in x1 8) ∧ K (some (.int (μ 91 x1.toNatClampNeg))) (mset μ 91 x1.toNatClampNeg x2)) ∧ (((inB x2 (0 : Int32) (999 : Int32)) = false) → K (some (.int (-7))) μ)) ∧ (((inB x1 0 (μ 82 4 - 1)) = false) → K (some (.int (-5))) μ)) : Ev2 G mX8_stand 3 0 [(0, .ref 82), (1, .int x1), (2, .int x2)] [] μ K := by
  refine ev_aload_n dX8_stand_0 0 rfl (by decide) ?_
  refine ev_iload_n dX8_stand_1 1 rfl ?_
  refine e2_callV (w := .int (bi (inB x1 0 (μ 82 4 - 1)))) (μ1 := μ) (a := 82) (as := [.int x1]) (st := []) ok_X8_isHorse vi_X8_isHorse ml_8_57 hcl_8 kd_82 dX8_stand_2 rfl rfl (Nat.le_of_ble_eq_true rfl) (Nat.le_of_ble_eq_true rfl) (by decide) (ct_X8_isHorse (x1) μ) ?_
  refine ev_ifne_bi (tgt := 11) dX8_stand_5 rfl (fun c1 => ?_) (fun c1 => ?_)
  · have h2 := h.1 c1
    refine ev_iload_n dX8_stand_11 2 rfl ?_
    refine ev_iconst (v := 0) dX8_stand_12 rfl ?_
    refine ev_sipush (v := 999) dX8_stand_13 rfl ?_
    refine e2_callS (w := .int (bi (inB x2 (0 : Int32) (999 : Int32)))) (μ1 := μ) (as := [.int x2, .int 0, .int 999]) (st := []) ok_X8_isIn sv_X8_isIn ml_8_3 dX8_stand_16 rfl rfl (Nat.le_of_ble_eq_true rfl) (Nat.le_of_ble_eq_true rfl) (by decide) (ct_X8_isIn (x2) (0) (999) μ) ?_
    refine ev_ifne_bi (tgt := 25) dX8_stand_19 rfl (fun c4 => ?_) (fun c4 => ?_)
    · have h5 := h2.1 c4
      refine ev_aload_n dX8_stand_25 0 rfl (by decide) ?_
      refine ev_getR' fl_8_50 rfl kd_82 rf_82_10 dX8_stand_26 ?_
      refine ev_iload_n dX8_stand_29 1 rfl ?_
      have p7 := h5.1
      have h8 := h5.2
      refine ev_iaload' (v := (μ 91 x1.toNatClampNeg)) kd_91 ln_91 p7 rfl dX8_stand_30 ?_
      refine ev_istore_n (lv' := [(0, .ref 82), (1, .int x1), (2, .int x2), (3, .int (μ 91 x1.toNatClampNeg))]) dX8_stand_31 (by decide) [1, 2, 3, 0] rfl ?_
      refine ev_aload_n dX8_stand_32 0 rfl (by decide) ?_
      refine ev_getR' fl_8_50 rfl kd_82 rf_82_10 dX8_stand_33 ?_
      refine ev_iload_n dX8_stand_36 1 rfl ?_
      refine ev_iload_n dX8_stand_37 2 rfl ?_
      have p9 := h8.1
      have h10 := h8.2
      refine ev_iastore' (j := x1.toNatClampNeg) kd_91 ln_91 p9 rfl dX8_stand_38 ?_
      refine ev_iload_n dX8_stand_39 3 rfl ?_
      exact ev_ireturn dX8_stand_40 rfl True.intro rfl rfl ⟨rfl, h10⟩
    · have h6 := h2.2 c4
      refine ev_bipush (v := (-7)) dX8_stand_22 rfl ?_
      exact ev_ireturn dX8_stand_24 rfl True.intro rfl rfl ⟨rfl, h6⟩
  · have h3 := h.2 c1
    refine ev_bipush (v := (-5)) dX8_stand_8 rfl ?_
    exact ev_ireturn dX8_stand_10 rfl True.intro rfl rfl ⟨rfl, h3⟩
theorem pb_X8_stand {G : GW} {α μ : Mem} (hf : WF α) (h : VM α μ) (x1 x2 : Int32) : pubM G mX8_stand 3 [(0, .ref 82), (1, .int x1), (2, .int x2)] α μ (.int (sp_stand α x1 x2)) (sq_stand α x1 x2) := by
  have hk := keepX.rf μ
  have cN : μ 82 4 = α 0 0 := h.1.1
  refine sg_X8_stand_0 ?_
  rw [cN]
  unfold sp_stand sq_stand
  refine ⟨fun c => ⟨fun d => ?_, fun d => ?_⟩, fun c => ?_⟩
  · rw [if_pos c, if_pos d, if_pos ⟨c, d⟩]
    obtain ⟨i, hi, hi7, rfl⟩ := vH' hf c
    have hv : vp_in (nI i) 8 := vp_nI (by omega) (by omega)
    rw [ix_nI (by omega)]
    exact ⟨hv, hv, by rw [(h.h1 hi).2.2.2.2.2], vm_ready h i x2⟩
  · rw [if_pos c, if_neg (by rw [d]; decide), if_neg (by rw [d]; simp)]
    exact ⟨rfl, h, hk⟩
  · rw [if_neg (by rw [c]; decide), if_neg (by rw [c]; simp)]
    exact ⟨rfl, h, hk⟩
theorem VM.W {α μ ν : Mem} (h : VM α μ) (hf : WF α) (ho : onlyM 99 100 μ ν) : VM α ν ∧ keepX μ ν := ⟨h.only hf.1 ho (by omega) (by omega), ho.keep (by omega)⟩
theorem sg_X8_told_0 {G : GW} {K : Option Value → Mem → Prop} {μ : Mem} {α : Mem} (hf : WF α) {x1 x2 : Int32}  (h : (((inB x1 0 (μ 82 4 - 1)) = true) → (x2 = 0 → (vp_in x1 8) ∧ K (some (.int (μ 86 x1.toNatClampNeg))) μ) ∧ (x2 = 1 → (vp_in x1 8) ∧ K (some (.int (μ 87 x1.toNatClampNeg))) μ) ∧ (x2 = 2 → (vp_in x1 8) ∧ K (some (.int (μ 88 x1.toNatClampNeg))) μ) ∧ (x2 = 3 → (vp_in x1 8) ∧ K (some (.int (μ 89 x1.toNatClampNeg))) μ) ∧ (x2 = 4 → (vp_in x1 8) ∧ K (some (.int (μ 90 x1.toNatClampNeg))) μ) ∧ (x2 = 5 → (vp_in x1 8) ∧ K (some (.int (μ 91 x1.toNatClampNeg))) μ) ∧ (x2 = 6 → (VM α μ ∧ inB x1 0 (α 0 0 - 1) = true) ∧ ∀ (z39 : Int32) (μ40 : Mem), (z39 = outA α x1.toNatClampNeg ∧ onlyM 99 100 μ μ40) → K (some (.int z39)) μ40) ∧ (x2 = 7 → (VM α μ ∧ inB x1 0 (α 0 0 - 1) = true) ∧ ∀ (z48 : Int32) (μ49 : Mem), (z48 = homeA α x1.toNatClampNeg ∧ onlyM 99 100 μ μ49) → K (some (.int z48)) μ49) ∧ (¬ x2 = 0 → ¬ x2 = 1 → ¬ x2 = 2 → ¬ x2 = 3 → ¬ x2 = 4 → ¬ x2 = 5 → ¬ x2 = 6 → ¬ x2 = 7 → K (some (.int (-7))) μ)) ∧ (((inB x1 0 (μ 82 4 - 1)) = false) → K (some (.int (-5))) μ)) : Ev2 G mX8_told 4 0 [(0, .ref 82), (1, .int x1), (2, .int x2)] [] μ K := by
  refine ev_aload_n dX8_told_0 0 rfl (by decide) ?_
  refine ev_iload_n dX8_told_1 1 rfl ?_
  refine e2_callV (w := .int (bi (inB x1 0 (μ 82 4 - 1)))) (μ1 := μ) (a := 82) (as := [.int x1]) (st := []) ok_X8_isHorse vi_X8_isHorse ml_8_57 hcl_8 kd_82 dX8_told_2 rfl rfl (Nat.le_of_ble_eq_true rfl) (Nat.le_of_ble_eq_true rfl) (by decide) (ct_X8_isHorse (x1) μ) ?_
  refine ev_ifne_bi (tgt := 11) dX8_told_5 rfl (fun c1 => ?_) (fun c1 => ?_)
  · have h2 := h.1 c1
    refine ev_iload_n dX8_told_11 2 rfl ?_
    rcases Decidable.em (x2 = 0) with c4 | c4
    · have h5 := h2.1 c4
      refine ev_tabIn (off := 48) (tgt := 60) 0 dX8_told_12 c4 (by decide) ?_
      refine ev_aload_n dX8_told_60 0 rfl (by decide) ?_
      refine ev_getR' fl_8_35 rfl kd_82 rf_82_5 dX8_told_61 ?_
      refine ev_iload_n dX8_told_64 1 rfl ?_
      have p7 := h5.1
      have h8 := h5.2
      refine ev_iaload' (v := (μ 86 x1.toNatClampNeg)) kd_86 ln_86 p7 rfl dX8_told_65 ?_
      exact ev_ireturn dX8_told_66 rfl True.intro rfl rfl ⟨rfl, h8⟩
    · have h6 := h2.2
      rcases Decidable.em (x2 = 1) with c9 | c9
      · have h10 := h6.1 c9
        refine ev_tabIn (off := 55) (tgt := 67) 1 dX8_told_12 c9 (by decide) ?_
        refine ev_aload_n dX8_told_67 0 rfl (by decide) ?_
        refine ev_getR' fl_8_38 rfl kd_82 rf_82_6 dX8_told_68 ?_
        refine ev_iload_n dX8_told_71 1 rfl ?_
        have p12 := h10.1
        have h13 := h10.2
        refine ev_iaload' (v := (μ 87 x1.toNatClampNeg)) kd_87 ln_87 p12 rfl dX8_told_72 ?_
        exact ev_ireturn dX8_told_73 rfl True.intro rfl rfl ⟨rfl, h13⟩
      · have h11 := h6.2
        rcases Decidable.em (x2 = 2) with c14 | c14
        · have h15 := h11.1 c14
          refine ev_tabIn (off := 62) (tgt := 74) 2 dX8_told_12 c14 (by decide) ?_
          refine ev_aload_n dX8_told_74 0 rfl (by decide) ?_
          refine ev_getR' fl_8_41 rfl kd_82 rf_82_7 dX8_told_75 ?_
          refine ev_iload_n dX8_told_78 1 rfl ?_
          have p17 := h15.1
          have h18 := h15.2
          refine ev_iaload' (v := (μ 88 x1.toNatClampNeg)) kd_88 ln_88 p17 rfl dX8_told_79 ?_
          exact ev_ireturn dX8_told_80 rfl True.intro rfl rfl ⟨rfl, h18⟩
        · have h16 := h11.2
          rcases Decidable.em (x2 = 3) with c19 | c19
          · have h20 := h16.1 c19
            refine ev_tabIn (off := 69) (tgt := 81) 3 dX8_told_12 c19 (by decide) ?_
            refine ev_aload_n dX8_told_81 0 rfl (by decide) ?_
            refine ev_getR' fl_8_44 rfl kd_82 rf_82_8 dX8_told_82 ?_
            refine ev_iload_n dX8_told_85 1 rfl ?_
            have p22 := h20.1
            have h23 := h20.2
            refine ev_iaload' (v := (μ 89 x1.toNatClampNeg)) kd_89 ln_89 p22 rfl dX8_told_86 ?_
            exact ev_ireturn dX8_told_87 rfl True.intro rfl rfl ⟨rfl, h23⟩
          · have h21 := h16.2
            rcases Decidable.em (x2 = 4) with c24 | c24
            · have h25 := h21.1 c24
              refine ev_tabIn (off := 76) (tgt := 88) 4 dX8_told_12 c24 (by decide) ?_
              refine ev_aload_n dX8_told_88 0 rfl (by decide) ?_
              refine ev_getR' fl_8_47 rfl kd_82 rf_82_9 dX8_told_89 ?_
              refine ev_iload_n dX8_told_92 1 rfl ?_
              have p27 := h25.1
              have h28 := h25.2
              refine ev_iaload' (v := (μ 90 x1.toNatClampNeg)) kd_90 ln_90 p27 rfl dX8_told_93 ?_
              exact ev_ireturn dX8_told_94 rfl True.intro rfl rfl ⟨rfl, h28⟩
            · have h26 := h21.2
              rcases Decidable.em (x2 = 5) with c29 | c29
              · have h30 := h26.1 c29
                refine ev_tabIn (off := 83) (tgt := 95) 5 dX8_told_12 c29 (by decide) ?_
                refine ev_aload_n dX8_told_95 0 rfl (by decide) ?_
                refine ev_getR' fl_8_50 rfl kd_82 rf_82_10 dX8_told_96 ?_
                refine ev_iload_n dX8_told_99 1 rfl ?_
                have p32 := h30.1
                have h33 := h30.2
                refine ev_iaload' (v := (μ 91 x1.toNatClampNeg)) kd_91 ln_91 p32 rfl dX8_told_100 ?_
                exact ev_ireturn dX8_told_101 rfl True.intro rfl rfl ⟨rfl, h33⟩
              · have h31 := h26.2
                rcases Decidable.em (x2 = 6) with c34 | c34
                · have h35 := h31.1 c34
                  refine ev_tabIn (off := 90) (tgt := 102) 6 dX8_told_12 c34 (by decide) ?_
                  refine ev_aload_n dX8_told_102 0 rfl (by decide) ?_
                  refine ev_iload_n dX8_told_103 1 rfl ?_
                  have p37 := h35.1
                  have h38 := h35.2
                  refine e2_callVr (Rl := fun z39 μ40 => z39 = outA α x1.toNatClampNeg ∧ onlyM 99 100 μ μ40) (a := 82) (as := [.int x1]) (st := []) ok_X8_outOf vi_X8_outOf ml_8_69 hcl_8 kd_82 dX8_told_104 rfl rfl (Nat.le_of_ble_eq_true rfl) (Nat.le_of_ble_eq_true rfl) (by decide) (ct_X8_outOf hf (x1) μ p37) (fun z39 μ40 r41 => ?_)
                  have h42 := h38 z39 μ40 r41
                  exact ev_ireturn dX8_told_107 rfl True.intro rfl rfl ⟨rfl, h42⟩
                · have h36 := h31.2
                  rcases Decidable.em (x2 = 7) with c43 | c43
                  · have h44 := h36.1 c43
                    refine ev_tabIn (off := 96) (tgt := 108) 7 dX8_told_12 c43 (by decide) ?_
                    refine ev_aload_n dX8_told_108 0 rfl (by decide) ?_
                    refine ev_iload_n dX8_told_109 1 rfl ?_
                    have p46 := h44.1
                    have h47 := h44.2
                    refine e2_callVr (Rl := fun z48 μ49 => z48 = homeA α x1.toNatClampNeg ∧ onlyM 99 100 μ μ49) (a := 82) (as := [.int x1]) (st := []) ok_X8_homeOf vi_X8_homeOf ml_8_73 hcl_8 kd_82 dX8_told_110 rfl rfl (Nat.le_of_ble_eq_true rfl) (Nat.le_of_ble_eq_true rfl) (by decide) (ct_X8_homeOf hf (x1) μ p46) (fun z48 μ49 r50 => ?_)
                    have h51 := h47 z48 μ49 r50
                    exact ev_ireturn dX8_told_113 rfl True.intro rfl rfl ⟨rfl, h51⟩
                  · have h45 := h36.2
                    have tc4 := tz_ne (z := 0) c4 (by decide)
                    have tc9 := tz_ne (z := 1) c9 (by decide)
                    have tc14 := tz_ne (z := 2) c14 (by decide)
                    have tc19 := tz_ne (z := 3) c19 (by decide)
                    have tc24 := tz_ne (z := 4) c24 (by decide)
                    have tc29 := tz_ne (z := 5) c29 (by decide)
                    have tc34 := tz_ne (z := 6) c34 (by decide)
                    have tc43 := tz_ne (z := 7) c43 (by decide)
                    have h52 := h45 c4 c9 c14 c19 c24 c29 c34 c43
                    refine ev_tabOut (tgt := 114) dX8_told_12 (by omega) rfl ?_
                    refine ev_bipush (v := (-7)) dX8_told_114 rfl ?_
                    exact ev_ireturn dX8_told_116 rfl True.intro rfl rfl ⟨rfl, h52⟩
  · have h3 := h.2 c1
    refine ev_bipush (v := (-5)) dX8_told_8 rfl ?_
    exact ev_ireturn dX8_told_10 rfl True.intro rfl rfl ⟨rfl, h3⟩
theorem pb_X8_told {G : GW} {α μ : Mem} (hf : WF α) (h : VM α μ) (x1 x2 : Int32) : pubM G mX8_told 4 [(0, .ref 82), (1, .int x1), (2, .int x2)] α μ (.int (sp_told α x1 x2)) α := by
  have hk := keepX.rf μ
  have cN : μ 82 4 = α 0 0 := h.1.1
  refine sg_X8_told_0 hf ?_
  rw [cN]
  refine ⟨fun c => ?_, fun c => ?_⟩
  · have c' := c
    obtain ⟨i, hi, hi7, rfl⟩ := vH' hf c
    have hv : vp_in (nI i) 8 := vp_nI (by omega) (by omega)
    obtain ⟨e1, e2, e3, e4, e5, e6⟩ := h.h1 hi
    unfold sp_told
    rw [if_pos c, ix_nI (by omega), e1, e2, e3, e4, e5, e6]
    refine ⟨fun d => ⟨hv, by subst d; exact ⟨rfl, h, hk⟩⟩, fun d => ⟨hv, by subst d; exact ⟨rfl, h, hk⟩⟩, fun d => ⟨hv, by subst d; exact ⟨rfl, h, hk⟩⟩, fun d => ⟨hv, by subst d; exact ⟨rfl, h, hk⟩⟩, fun d => ⟨hv, by subst d; exact ⟨rfl, h, hk⟩⟩, fun d => ⟨hv, by subst d; exact ⟨rfl, h, hk⟩⟩, fun d => ⟨⟨h, c'⟩, fun z ν hz => ?_⟩, fun d => ⟨⟨h, c'⟩, fun z ν hz => ?_⟩, fun d0 d1 d2 d3 d4 d5 d6 d7 => ?_⟩
    · subst d
      exact ⟨by rw [hz.1]; rfl, h.W hf hz.2⟩
    · subst d
      exact ⟨by rw [hz.1]; rfl, h.W hf hz.2⟩
    · rw [if_neg d0, if_neg d1, if_neg d2, if_neg d3, if_neg d4, if_neg d5, if_neg d6, if_neg d7]
      exact ⟨rfl, h, hk⟩
  · unfold sp_told
    rw [if_neg (by rw [c]; decide)]
    exact ⟨rfl, h, hk⟩
theorem sg_X8_goes_0 {G : GW} {K : Option Value → Mem → Prop} {μ : Mem} {α : Mem} (hf : WF α) {x1 x2 : Int32}  (h : (((inB x1 0 (μ 82 4 - 1)) = false) → K (some (.int (-5))) μ) ∧ (((inB x1 0 (μ 82 4 - 1)) = true) → (((inB x2 0 6) = false) → K (some (.int (-5))) μ) ∧ (((inB x2 0 6) = true) → (VM α μ ∧ inB x1 0 (α 0 0 - 1) = true ∧ inB x2 0 6 = true) ∧ K (some (.int (goA α x1.toNatClampNeg x2.toNatClampNeg))) μ))) : Ev2 G mX8_goes 3 0 [(0, .ref 82), (1, .int x1), (2, .int x2)] [] μ K := by
  refine ev_aload_n dX8_goes_0 0 rfl (by decide) ?_
  refine ev_iload_n dX8_goes_1 1 rfl ?_
  refine e2_callV (w := .int (bi (inB x1 0 (μ 82 4 - 1)))) (μ1 := μ) (a := 82) (as := [.int x1]) (st := []) ok_X8_isHorse vi_X8_isHorse ml_8_57 hcl_8 kd_82 dX8_goes_2 rfl rfl (Nat.le_of_ble_eq_true rfl) (Nat.le_of_ble_eq_true rfl) (by decide) (ct_X8_isHorse (x1) μ) ?_
  refine ev_ifeq_bi (tgt := 24) dX8_goes_5 rfl (fun c1 => ?_) (fun c1 => ?_)
  · have h2 := h.1 c1
    refine ev_bipush (v := (-5)) dX8_goes_24 rfl ?_
    exact ev_ireturn dX8_goes_26 rfl True.intro rfl rfl ⟨rfl, h2⟩
  · have h3 := h.2 c1
    refine ev_iload_n dX8_goes_8 2 rfl ?_
    refine e2_callS (w := .int (bi (inB x2 0 6))) (μ1 := μ) (as := [.int x2]) (st := []) ok_X8_isPlace sv_X8_isPlace ml_8_18 dX8_goes_9 rfl rfl (Nat.le_of_ble_eq_true rfl) (Nat.le_of_ble_eq_true rfl) (by decide) (ct_X8_isPlace (x2) μ) ?_
    refine ev_ifeq_bi (tgt := 24) dX8_goes_12 rfl (fun c4 => ?_) (fun c4 => ?_)
    · have h5 := h3.1 c4
      refine ev_bipush (v := (-5)) dX8_goes_24 rfl ?_
      exact ev_ireturn dX8_goes_26 rfl True.intro rfl rfl ⟨rfl, h5⟩
    · have h6 := h3.2 c4
      refine ev_aload_n dX8_goes_15 0 rfl (by decide) ?_
      refine ev_iload_n dX8_goes_16 1 rfl ?_
      refine ev_iload_n dX8_goes_17 2 rfl ?_
      have p7 := h6.1
      have h8 := h6.2
      refine e2_callV (w := .int (goA α x1.toNatClampNeg x2.toNatClampNeg)) (μ1 := μ) (a := 82) (as := [.int x1, .int x2]) (st := []) ok_X8_whither vi_X8_whither ml_8_76 hcl_8 kd_82 dX8_goes_18 rfl rfl (Nat.le_of_ble_eq_true rfl) (Nat.le_of_ble_eq_true rfl) (by decide) (ct_X8_whither hf (x1) (x2) μ p7) ?_
      refine ev_goto (tgt := 26) dX8_goes_21 rfl ?_
      exact ev_ireturn dX8_goes_26 rfl True.intro rfl rfl ⟨rfl, h8⟩
theorem pb_X8_goes {G : GW} {α μ : Mem} (hf : WF α) (h : VM α μ) (x1 x2 : Int32) : pubM G mX8_goes 3 [(0, .ref 82), (1, .int x1), (2, .int x2)] α μ (.int (sp_goes α x1 x2)) α := by
  have hk := keepX.rf μ
  have cN : μ 82 4 = α 0 0 := h.1.1
  refine sg_X8_goes_0 hf ?_
  rw [cN]
  unfold sp_goes
  refine ⟨fun c => ?_, fun c1 => ⟨fun c => ?_, fun c2 => ⟨⟨h, c1, c2⟩, ?_⟩⟩⟩
  · rw [if_neg (by rw [c]; simp)]
    exact ⟨rfl, h, hk⟩
  · rw [if_neg (by rw [c]; simp)]
    exact ⟨rfl, h, hk⟩
  · rw [if_pos ⟨c1, c2⟩]
    exact ⟨rfl, h, hk⟩
theorem atA_succ (α : Mem) (p i : Nat) : atA α p (i + 1) = if goA α i p = -1 then atA α p i else atA α p i ||| (1 <<< (nI i &&& 31)) := by rw [atA]
theorem sg_X8_at_0 {G : GW} {K : Option Value → Mem → Prop} {μ : Mem} {α : Mem} (hf : WF α) {x1 : Int32}  (h : (((inB x1 0 6) = true) → Ev2 G mX8_at 3 14 [(0, .ref 82), (1, .int x1), (2, .int 0), (3, .int 0)] [] μ K) ∧ (((inB x1 0 6) = false) → K (some (.int (-5))) μ)) : Ev2 G mX8_at 3 0 [(0, .ref 82), (1, .int x1)] [] μ K := by
  refine ev_iload_n dX8_at_0 1 rfl ?_
  refine e2_callS (w := .int (bi (inB x1 0 6))) (μ1 := μ) (as := [.int x1]) (st := []) ok_X8_isPlace sv_X8_isPlace ml_8_18 dX8_at_1 rfl rfl (Nat.le_of_ble_eq_true rfl) (Nat.le_of_ble_eq_true rfl) (by decide) (ct_X8_isPlace (x1) μ) ?_
  refine ev_ifne_bi (tgt := 10) dX8_at_4 rfl (fun c1 => ?_) (fun c1 => ?_)
  · have h2 := h.1 c1
    refine ev_iconst (v := 0) dX8_at_10 rfl ?_
    refine ev_istore_n (lv' := [(0, .ref 82), (1, .int x1), (2, .int 0)]) dX8_at_11 (by decide) [1, 2, 0] rfl ?_
    refine ev_iconst (v := 0) dX8_at_12 rfl ?_
    refine ev_istore_n (lv' := [(0, .ref 82), (1, .int x1), (2, .int 0), (3, .int 0)]) dX8_at_13 (by decide) [1, 2, 3, 0] rfl ?_
    exact h2
  · have h3 := h.2 c1
    refine ev_bipush (v := (-5)) dX8_at_7 rfl ?_
    exact ev_ireturn dX8_at_9 rfl True.intro rfl rfl ⟨rfl, h3⟩
theorem sg_X8_at_14 {G : GW} {K : Option Value → Mem → Prop} {μ : Mem} {α : Mem} (hf : WF α) {x1 x2 x3 : Int32}  (h : (((μ 82 4) ≤ x3) → K (some (.int x2)) μ) ∧ ((¬ ((μ 82 4) ≤ x3)) → (VM α μ ∧ inB x3 0 (α 0 0 - 1) = true ∧ inB x1 0 6 = true) ∧ ((¬ (goA α x3.toNatClampNeg x1.toNatClampNeg) = (-1)) → ∀ y9 : Int32, y9 = (x2 ||| ((1 : Int32) <<< (x3 &&& 31))) → Ev2 G mX8_at 3 14 [(0, .ref 82), (1, .int x1), (2, .int y9), (3, .int (x3 + 1))] [] μ K) ∧ (((goA α x3.toNatClampNeg x1.toNatClampNeg) = (-1)) → Ev2 G mX8_at 3 14 [(0, .ref 82), (1, .int x1), (2, .int (x2 ||| 0)), (3, .int (x3 + 1))] [] μ K))) : Ev2 G mX8_at 3 14 [(0, .ref 82), (1, .int x1), (2, .int x2), (3, .int x3)] [] μ K := by
  refine ev_iload_n dX8_at_14 3 rfl ?_
  refine ev_aload_n dX8_at_15 0 rfl (by decide) ?_
  refine ev_getI' (v := (μ 82 4)) fl_8_7 rfl kd_82 rfl dX8_at_16 ?_
  refine ev_icmp_ge (tgt := 48) dX8_at_19 rfl (fun c1 => ?_) (fun c1 => ?_)
  · have h2 := h.1 c1
    refine ev_iload_n dX8_at_48 2 rfl ?_
    exact ev_ireturn dX8_at_49 rfl True.intro rfl rfl ⟨rfl, h2⟩
  · have h3 := h.2 c1
    refine ev_iload_n dX8_at_22 2 rfl ?_
    refine ev_aload_n dX8_at_23 0 rfl (by decide) ?_
    refine ev_iload_n dX8_at_24 3 rfl ?_
    refine ev_iload_n dX8_at_25 1 rfl ?_
    have p4 := h3.1
    have h5 := h3.2
    refine e2_callV (w := .int (goA α x3.toNatClampNeg x1.toNatClampNeg)) (μ1 := μ) (a := 82) (as := [.int x3, .int x1]) (st := [.int x2]) ok_X8_whither vi_X8_whither ml_8_76 hcl_8 kd_82 dX8_at_26 rfl rfl (Nat.le_of_ble_eq_true rfl) (Nat.le_of_ble_eq_true rfl) (by decide) (ct_X8_whither hf (x3) (x1) μ p4) ?_
    refine ev_iconst (v := (-1)) dX8_at_29 rfl ?_
    refine ev_icmp_ne (tgt := 37) dX8_at_30 rfl (fun c6 => ?_) (fun c6 => ?_)
    · have h7 := h5.1 c6
      refine ev_iconst (v := 1) dX8_at_37 rfl ?_
      refine ev_iload_n dX8_at_38 3 rfl ?_
      refine ev_ishl dX8_at_39 ?_
      refine ev_ior dX8_at_40 ?_
      refine ev_top (fun y9 ey9 => ?_)
      have h10 := h7 y9 ey9
      refine ev_istore_n (lv' := [(0, .ref 82), (1, .int x1), (2, .int y9), (3, .int x3)]) dX8_at_41 (by decide) [1, 2, 0, 3] rfl ?_
      refine ev_iinc (v := (x3 + 1)) (lv' := [(0, .ref 82), (1, .int x1), (2, .int y9), (3, .int (x3 + 1))]) dX8_at_42 3 rfl rfl (by decide) [1, 2, 3, 0] rfl ?_
      refine ev_goto (tgt := 14) dX8_at_45 rfl ?_
      exact h10
    · have h8 := h5.2 c6
      refine ev_iconst (v := 0) dX8_at_33 rfl ?_
      refine ev_goto (tgt := 40) dX8_at_34 rfl ?_
      refine ev_ior dX8_at_40 ?_
      refine ev_istore_n (lv' := [(0, .ref 82), (1, .int x1), (2, .int (x2 ||| 0)), (3, .int x3)]) dX8_at_41 (by decide) [1, 2, 0, 3] rfl ?_
      refine ev_iinc (v := (x3 + 1)) (lv' := [(0, .ref 82), (1, .int x1), (2, .int (x2 ||| 0)), (3, .int (x3 + 1))]) dX8_at_42 3 rfl rfl (by decide) [1, 2, 3, 0] rfl ?_
      refine ev_goto (tgt := 14) dX8_at_45 rfl ?_
      exact h8
theorem lp_X8_at {G : GW} {α μ : Mem} (hf : WF α) (h : VM α μ) {p : Nat} (hp : p < 7) : ∀ j i, i + j = aN α → Ev2 G mX8_at 3 14 [(0, .ref 82), (1, .int (nI p)), (2, .int (atA α p i)), (3, .int (nI i))] [] μ (fun v μ' => v = some (.int (atA α p (aN α))) ∧ VM α μ' ∧ keepX μ μ') := by
  have hN := hf.1.1.2
  have cN : μ 82 4 = nI (aN α) := h.n hf
  intro j
  induction j with
  | zero =>
    intro i hi
    obtain rfl : i = aN α := by omega
    refine sg_X8_at_14 hf ⟨fun _ => ⟨rfl, h, keepX.rf μ⟩, fun c => ?_⟩
    rw [cN] at c
    exact absurd (nI_le (Nat.le_refl _) (by omega)) c
  | succ j ih =>
    intro i hi
    have hx := ih (i + 1) (by omega)
    rw [atA_succ, ← nI_1] at hx
    refine sg_X8_at_14 hf ⟨fun c => ?_, fun _ => ⟨⟨h, inB_h hf (by omega), inB_7 hp⟩, fun c => ?_, fun c => ?_⟩⟩
    · rw [cN] at c
      exact absurd c (nI_ge (by omega) (by omega))
    · rw [ix_nI (by omega), ix_nI (by omega)] at c
      rw [if_neg c] at hx
      intro y hy
      rw [hy]
      exact hx
    · rw [ix_nI (by omega), ix_nI (by omega)] at c
      rw [if_pos c] at hx
      rw [Int32.or_zero]
      exact hx
theorem pb_X8_at {G : GW} {α μ : Mem} (hf : WF α) (h : VM α μ) (x1 : Int32) : pubM G mX8_at 3 [(0, .ref 82), (1, .int x1)] α μ (.int (sp_at α x1)) α := by
  unfold sp_at
  refine sg_X8_at_0 hf ⟨fun c => ?_, fun c => ?_⟩
  · rw [if_pos c]
    obtain ⟨p, hp, rfl⟩ := inB_p c
    rw [ix_nI (by omega)]
    have hl := lp_X8_at (G := G) hf h hp (aN α) 0 (by omega)
    have e0 : atA α p 0 = 0 := by rw [atA]
    rw [e0] at hl
    exact hl
  · rw [if_neg (by rw [c]; decide)]
    exact ⟨rfl, h, keepX.rf μ⟩
theorem sg_X8_asks_0 {G : GW} {K : Option Value → Mem → Prop} {μ : Mem} {α : Mem} (hf : WF α) {x1 x2 : Int32}  (h : (((inB x2 0 (μ 82 4 - 1)) = true) → (((inB x1 (0 : Int32) (2 : Int32)) = false) → K (some (.int (-7))) μ) ∧ (((inB x1 (0 : Int32) (2 : Int32)) = true) → (VM α μ ∧ inB x1 0 2 = true ∧ inB x2 0 (α 0 0 - 1) = true) ∧ ∀ (z9 : Int32) (μ10 : Mem), (z9 = saidA α x1.toNatClampNeg x2.toNatClampNeg ∧ onlyM 99 100 μ μ10) → K (some (.int z9)) μ10)) ∧ (((inB x2 0 (μ 82 4 - 1)) = false) → K (some (.int (-5))) μ)) : Ev2 G mX8_asks 3 0 [(0, .ref 82), (1, .int x1), (2, .int x2)] [] μ K := by
  refine ev_aload_n dX8_asks_0 0 rfl (by decide) ?_
  refine ev_iload_n dX8_asks_1 2 rfl ?_
  refine e2_callV (w := .int (bi (inB x2 0 (μ 82 4 - 1)))) (μ1 := μ) (a := 82) (as := [.int x2]) (st := []) ok_X8_isHorse vi_X8_isHorse ml_8_57 hcl_8 kd_82 dX8_asks_2 rfl rfl (Nat.le_of_ble_eq_true rfl) (Nat.le_of_ble_eq_true rfl) (by decide) (ct_X8_isHorse (x2) μ) ?_
  refine ev_ifne_bi (tgt := 11) dX8_asks_5 rfl (fun c1 => ?_) (fun c1 => ?_)
  · have h2 := h.1 c1
    refine ev_iload_n dX8_asks_11 1 rfl ?_
    refine ev_iconst (v := 0) dX8_asks_12 rfl ?_
    refine ev_iconst (v := 2) dX8_asks_13 rfl ?_
    refine e2_callS (w := .int (bi (inB x1 (0 : Int32) (2 : Int32)))) (μ1 := μ) (as := [.int x1, .int 0, .int 2]) (st := []) ok_X8_isIn sv_X8_isIn ml_8_3 dX8_asks_14 rfl rfl (Nat.le_of_ble_eq_true rfl) (Nat.le_of_ble_eq_true rfl) (by decide) (ct_X8_isIn (x1) (0) (2) μ) ?_
    refine ev_ifeq_bi (tgt := 29) dX8_asks_17 rfl (fun c4 => ?_) (fun c4 => ?_)
    · have h5 := h2.1 c4
      refine ev_bipush (v := (-7)) dX8_asks_29 rfl ?_
      exact ev_ireturn dX8_asks_31 rfl True.intro rfl rfl ⟨rfl, h5⟩
    · have h6 := h2.2 c4
      refine ev_aload_n dX8_asks_20 0 rfl (by decide) ?_
      refine ev_iload_n dX8_asks_21 1 rfl ?_
      refine ev_iload_n dX8_asks_22 2 rfl ?_
      have p7 := h6.1
      have h8 := h6.2
      refine e2_callVr (Rl := fun z9 μ10 => z9 = saidA α x1.toNatClampNeg x2.toNatClampNeg ∧ onlyM 99 100 μ μ10) (a := 82) (as := [.int x1, .int x2]) (st := []) ok_X8_worthOf vi_X8_worthOf ml_8_60 hcl_8 kd_82 dX8_asks_23 rfl rfl (Nat.le_of_ble_eq_true rfl) (Nat.le_of_ble_eq_true rfl) (by decide) (ct_X8_worthOf hf (x1) (x2) μ p7) (fun z9 μ10 r11 => ?_)
      have h12 := h8 z9 μ10 r11
      refine ev_goto (tgt := 31) dX8_asks_26 rfl ?_
      exact ev_ireturn dX8_asks_31 rfl True.intro rfl rfl ⟨rfl, h12⟩
  · have h3 := h.2 c1
    refine ev_bipush (v := (-5)) dX8_asks_8 rfl ?_
    exact ev_ireturn dX8_asks_10 rfl True.intro rfl rfl ⟨rfl, h3⟩
theorem in_02 {x : Int32} (h : inB x 0 2 = true) : x = 0 ∨ x = 1 ∨ x = 2 := by
  obtain ⟨p, hp, rfl⟩ := inB_nI (m := 2) (by omega) h
  rcases (show p = 0 ∨ p = 1 ∨ p = 2 by omega) with rfl | rfl | rfl
  · exact Or.inl rfl
  · exact Or.inr (Or.inl rfl)
  · exact Or.inr (Or.inr rfl)
theorem pb_X8_asks {G : GW} {α μ : Mem} (hf : WF α) (h : VM α μ) (x1 x2 : Int32) : pubM G mX8_asks 3 [(0, .ref 82), (1, .int x1), (2, .int x2)] α μ (.int (sp_asks α x1 x2)) α := by
  have hk := keepX.rf μ
  have cN : μ 82 4 = α 0 0 := h.1.1
  refine sg_X8_asks_0 hf ?_
  rw [cN]
  unfold sp_asks
  refine ⟨fun c => ⟨fun d => ?_, fun d => ⟨⟨h, d, c⟩, fun z ν hz => ⟨?_, h.W hf hz.2⟩⟩⟩, fun c => ?_⟩
  · rw [if_pos c, if_neg (fun q => by rw [q] at d; exact absurd d (by decide)), if_neg (fun q => by rw [q] at d; exact absurd d (by decide)), if_neg (fun q => by rw [q] at d; exact absurd d (by decide))]
    exact ⟨rfl, h, hk⟩
  · rw [if_pos c, hz.1]
    rcases in_02 d with rfl | rfl | rfl <;> rfl
  · rw [if_neg (by rw [c]; decide)]
    exact ⟨rfl, h, hk⟩
theorem sg_X8_count_0 {G : GW} {K : Option Value → Mem → Prop} {μ : Mem} {x1 : Int32}  (h : (x1 = 0 → K (some (.int (μ 82 4))) μ) ∧ (x1 = 1 → K (some (.int (μ 82 1))) μ) ∧ (x1 = 2 → K (some (.int (μ 82 13))) μ) ∧ (x1 = 3 → K (some (.int (μ 82 14))) μ) ∧ (x1 = 4 → K (some (.int (μ 82 12))) μ) ∧ (¬ x1 = 0 → ¬ x1 = 1 → ¬ x1 = 2 → ¬ x1 = 3 → ¬ x1 = 4 → K (some (.int (-2))) μ)) : Ev2 G mX8_count 1 0 [(0, .ref 82), (1, .int x1)] [] μ K := by
  refine ev_iload_n dX8_count_0 1 rfl ?_
  rcases Decidable.em (x1 = 0) with c1 | c1
  · have h2 := h.1 c1
    refine ev_tabIn (off := 35) (tgt := 36) 0 dX8_count_1 c1 (by decide) ?_
    refine ev_aload_n dX8_count_36 0 rfl (by decide) ?_
    refine ev_getI' (v := (μ 82 4)) fl_8_7 rfl kd_82 rfl dX8_count_37 ?_
    exact ev_ireturn dX8_count_40 rfl True.intro rfl rfl ⟨rfl, h2⟩
  · have h3 := h.2
    rcases Decidable.em (x1 = 1) with c4 | c4
    · have h5 := h3.1 c4
      refine ev_tabIn (off := 40) (tgt := 41) 1 dX8_count_1 c4 (by decide) ?_
      refine ev_aload_n dX8_count_41 0 rfl (by decide) ?_
      refine ev_getI' (v := (μ 82 1)) fl_8_11 rfl kd_82 rfl dX8_count_42 ?_
      exact ev_ireturn dX8_count_45 rfl True.intro rfl rfl ⟨rfl, h5⟩
    · have h6 := h3.2
      rcases Decidable.em (x1 = 2) with c7 | c7
      · have h8 := h6.1 c7
        refine ev_tabIn (off := 45) (tgt := 46) 2 dX8_count_1 c7 (by decide) ?_
        refine ev_aload_n dX8_count_46 0 rfl (by decide) ?_
        refine ev_getI' (v := (μ 82 13)) fl_8_181 rfl kd_82 rfl dX8_count_47 ?_
        exact ev_ireturn dX8_count_50 rfl True.intro rfl rfl ⟨rfl, h8⟩
      · have h9 := h6.2
        rcases Decidable.em (x1 = 3) with c10 | c10
        · have h11 := h9.1 c10
          refine ev_tabIn (off := 50) (tgt := 51) 3 dX8_count_1 c10 (by decide) ?_
          refine ev_aload_n dX8_count_51 0 rfl (by decide) ?_
          refine ev_getI' (v := (μ 82 14)) fl_8_187 rfl kd_82 rfl dX8_count_52 ?_
          exact ev_ireturn dX8_count_55 rfl True.intro rfl rfl ⟨rfl, h11⟩
        · have h12 := h9.2
          rcases Decidable.em (x1 = 4) with c13 | c13
          · have h14 := h12.1 c13
            refine ev_tabIn (off := 55) (tgt := 56) 4 dX8_count_1 c13 (by decide) ?_
            refine ev_aload_n dX8_count_56 0 rfl (by decide) ?_
            refine ev_getI' (v := (μ 82 12)) fl_8_79 rfl kd_82 rfl dX8_count_57 ?_
            exact ev_ireturn dX8_count_60 rfl True.intro rfl rfl ⟨rfl, h14⟩
          · have h15 := h12.2
            have tc1 := tz_ne (z := 0) c1 (by decide)
            have tc4 := tz_ne (z := 1) c4 (by decide)
            have tc7 := tz_ne (z := 2) c7 (by decide)
            have tc10 := tz_ne (z := 3) c10 (by decide)
            have tc13 := tz_ne (z := 4) c13 (by decide)
            have h16 := h15 c1 c4 c7 c10 c13
            refine ev_tabOut (tgt := 61) dX8_count_1 (by omega) rfl ?_
            refine ev_bipush (v := (-2)) dX8_count_61 rfl ?_
            exact ev_ireturn dX8_count_63 rfl True.intro rfl rfl ⟨rfl, h16⟩
theorem pb_X8_count {G : GW} {α μ : Mem} (hf : WF α) (h : VM α μ) (x1 : Int32) : pubM G mX8_count 1 [(0, .ref 82), (1, .int x1)] α μ (.int (sp_count α x1)) α := by
  have hk := keepX.rf μ
  obtain ⟨c1, c2, c3, c4, c5⟩ := h.1
  refine sg_X8_count_0 ?_
  rw [c1, c2, c3, c4, c5]
  refine ⟨fun d => by subst d; exact ⟨rfl, h, hk⟩, fun d => by subst d; exact ⟨rfl, h, hk⟩, fun d => by subst d; exact ⟨rfl, h, hk⟩, fun d => by subst d; exact ⟨rfl, h, hk⟩, fun d => by subst d; exact ⟨rfl, h, hk⟩, fun d0 d1 d2 d3 d4 => ?_⟩
  unfold sp_count
  rw [if_neg d0, if_neg d1, if_neg d2, if_neg d3, if_neg d4]
  exact ⟨rfl, h, hk⟩
theorem vm_law {α μ : Mem} (h : VM α μ) (t : Int32) : VM (lawA α t) (mset μ 82 14 t) ∧ keepX μ (mset μ 82 14 t) := by
  obtain ⟨vc, vw, vr, vh, vt, vx, vi, vs, vk⟩ := h
  have e : ∀ r, r ≠ 0 → lawA α t r = α r := fun r h => mset_ne h
  have e0 : ∀ k, k ≠ 3 → lawA α t 0 k = α 0 k := fun k h => mset_other (by omega)
  have n : ∀ r, r ≠ 82 → mset μ 82 14 t r = μ r := fun r h => mset_ne h
  have n0 : ∀ k, k ≠ 14 → mset μ 82 14 t 82 k = μ 82 k := fun k h => mset_other (by omega)
  refine ⟨⟨⟨?_, ?_, ?_, ?_, ?_⟩, ?_, ?_, ?_, ?_, ?_, ?_, ?_, ?_⟩, keepX.set (by omega)⟩
  · rw [n0 4 (by omega), e0 0 (by omega)]; exact vc.1
  · rw [n0 1 (by omega), e0 1 (by omega)]; exact vc.2.1
  · rw [n0 13 (by omega), e0 2 (by omega)]; exact vc.2.2.1
  · unfold lawA; rw [mset_same, mset_same]
  · rw [n0 12 (by omega), e0 4 (by omega)]; exact vc.2.2.2.2
  · exact vw.eq (e 1 (by omega)) (n 83 (by omega))
  · exact vr.eq (e0 1 (by omega)) (e 2 (by omega)) (e 3 (by omega)) (n 84 (by omega)) (n 85 (by omega))
  · exact vh.eq (e0 0 (by omega)) (fun f _ => e (4 + f) (by omega)) (fun f _ => n (86 + f) (by omega))
  · exact vt.eq (e0 4 (by omega)) (e 10 (by omega)) (n 92 (by omega))
  · exact vx.eq (e0 2 (by omega)) (e 17 (by omega)) (e 18 (by omega)) (n 93 (by omega)) (n 94 (by omega))
  · exact vi.eq (e 11 (by omega)) (e 12 (by omega)) (e 13 (by omega)) (fun k _ => n0 k (by omega)) (n 107 (by omega)) (n 108 (by omega))
  · exact vs.eq (e 14 (by omega)) (e 15 (by omega)) (e 16 (by omega)) (n 109 (by omega)) (n 110 (by omega)) (n 111 (by omega))
  · exact vk.eq (n 95 (by omega)) (n 96 (by omega))
theorem sg_X8_force_0 {G : GW} {K : Option Value → Mem → Prop} {μ : Mem} {x1 : Int32}  (h : (((inB x1 (0 : Int32) ((μ 82 13) - 1)) = true) → K (some (.int (μ 82 14))) (mset μ 82 14 x1)) ∧ (((inB x1 (0 : Int32) ((μ 82 13) - 1)) = false) → K (some (.int (-2))) μ)) : Ev2 G mX8_force 2 0 [(0, .ref 82), (1, .int x1)] [] μ K := by
  refine ev_iload_n dX8_force_0 1 rfl ?_
  refine ev_iconst (v := 0) dX8_force_1 rfl ?_
  refine ev_aload_n dX8_force_2 0 rfl (by decide) ?_
  refine ev_getI' (v := (μ 82 13)) fl_8_181 rfl kd_82 rfl dX8_force_3 ?_
  refine ev_iconst (v := 1) dX8_force_6 rfl ?_
  refine ev_isub dX8_force_7 ?_
  refine e2_callS (w := .int (bi (inB x1 (0 : Int32) ((μ 82 13) - 1)))) (μ1 := μ) (as := [.int x1, .int 0, .int ((μ 82 13) - 1)]) (st := []) ok_X8_isIn sv_X8_isIn ml_8_3 dX8_force_8 rfl rfl (Nat.le_of_ble_eq_true rfl) (Nat.le_of_ble_eq_true rfl) (by decide) (ct_X8_isIn (x1) (0) (((μ 82 13) - 1)) μ) ?_
  refine ev_ifne_bi (tgt := 17) dX8_force_11 rfl (fun c1 => ?_) (fun c1 => ?_)
  · have h2 := h.1 c1
    refine ev_aload_n dX8_force_17 0 rfl (by decide) ?_
    refine ev_getI' (v := (μ 82 14)) fl_8_187 rfl kd_82 rfl dX8_force_18 ?_
    refine ev_istore_n (lv' := [(0, .ref 82), (1, .int x1), (2, .int (μ 82 14))]) dX8_force_21 (by decide) [1, 2, 0] rfl ?_
    refine ev_aload_n dX8_force_22 0 rfl (by decide) ?_
    refine ev_iload_n dX8_force_23 1 rfl ?_
    refine ev_putI fl_8_187 ⟨rfl, rfl, rfl⟩ (fun r hr => by cases hr; rfl) kd_82 dX8_force_24 ?_
    refine ev_iload_n dX8_force_27 2 rfl ?_
    exact ev_ireturn dX8_force_28 rfl True.intro rfl rfl ⟨rfl, h2⟩
  · have h3 := h.2 c1
    refine ev_bipush (v := (-2)) dX8_force_14 rfl ?_
    exact ev_ireturn dX8_force_16 rfl True.intro rfl rfl ⟨rfl, h3⟩
theorem pb_X8_force {G : GW} {α μ : Mem} (hf : WF α) (h : VM α μ) (x1 : Int32) : pubM G mX8_force 2 [(0, .ref 82), (1, .int x1)] α μ (.int (sp_force α x1)) (sq_force α x1) := by
  have hk := keepX.rf μ
  obtain ⟨c1, c2, c3, c4, c5⟩ := h.1
  refine sg_X8_force_0 ?_
  rw [c3, c4]
  unfold sp_force sq_force
  refine ⟨fun c => ?_, fun c => ?_⟩
  · rw [if_pos c, if_pos c]
    exact ⟨rfl, vm_law h x1⟩
  · rw [if_neg (by rw [c]; decide), if_neg (by rw [c]; decide)]
    exact ⟨rfl, h, hk⟩
