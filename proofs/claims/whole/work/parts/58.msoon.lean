/-! ===== the reference's public methods: soonest, piece, both, needed ===== -/
theorem first_ref {w : Nat → Nat → Int32} {a : Nat} {τ : Mem} (hi : Inv w a τ) {p : Nat} (hp : p < 7) (hpa : p ≠ a) : firstF (pieceV τ p) = if τ 1 p = 7 then -1 else τ 1 p := by
  obtain ⟨hw, -⟩ := hi.2.2.1 p hp hpa
  have key : ∀ b, b < 8 → pieceV τ p = nI (10 * b + p) → τ 1 p = nI b → firstF (pieceV τ p) = if τ 1 p = 7 then -1 else τ 1 p := by
    intro b hb e1 e2
    unfold firstF
    rw [e1, show (10 : Int32) = nI 10 from rfl, pk_div (by omega) (by omega) (by omega), show (10 * b + p) / 10 = b by omega, e2]
    by_cases c : nI b = 7
    · rw [if_pos (Or.inr c), if_pos c]
    · rw [if_neg (fun q => q.elim (nI_m (by omega)) c), if_neg c]
  rcases hw with e | ⟨h, hh, e⟩
  · refine key 7 (by omega) ?_ e
    unfold pieceV
    rw [e, show (10 : Int32) = nI 10 from rfl, show (7 : Int32) = nI 7 from rfl, pk_mul, nI_add]
  · refine key h (by omega) ?_ e
    unfold pieceV
    rw [e, show (10 : Int32) = nI 10 from rfl, pk_mul, nI_add]
theorem pieceS_nil (τ : Mem) (i : Int32) : pieceS τ [] i = -1 := by
  unfold pieceS
  refine if_neg (fun q => ?_)
  exact absurd q.1 (Int32.not_le.mpr q.2)
theorem pieceS_i {τ : Mem} {l : List Nat} {i p : Nat} (hl : l.length < 2 ^ 30) (hi : i < l.length) (e : l.getD (l.length - 1 - i) 0 = p) : pieceS τ l (nI i) = pieceV τ p := by
  unfold pieceS
  rw [if_pos ⟨nI_pos' (by omega), nI_lt hi (by omega)⟩]
  have e1 : nI l.length - 1 - nI i = nI (l.length - 1 - i) := by
    rw [nI_m1 (by omega), pk_sub (by omega)]
  rw [e1, ix_nI (by omega), e]
theorem sg_X8_soonest_0 {G : GW} {K : Option Value → Mem → Prop} {μ : Mem} {α : Mem} (hf : WF α) {x1 x2 x3 : Int32}  (h : (((inB x1 0 6) = false) → K (some (.int (-5))) μ) ∧ (((inB x1 0 6) = true) → (((inB x2 0 6) = true) → (((inB x3 (0 : Int32) (4 : Int32)) = true) → (VM α μ ∧ inB x1 0 6 = true ∧ setOK (aN α) ((((1 : Int32) <<< (μ 82 4 &&& 31)) - 1))) ∧ ∀ μ12 : Mem, (onlyM 99 105 μ μ12 ∧ eq7 (get4 101 μ12) (refS α ((((1 : Int32) <<< (μ 82 4 &&& 31)) - 1)) x1.toNatClampNeg)) → ((∃ w a, chP w a μ12) ∧ inB x2 0 6 = true) ∧ ∀ μ17 : Mem, (wyR μ12 (backL (get4 101 μ12) 7 x2.toNatClampNeg) μ17) → Ev2 G mX8_soonest 5 49 [(0, .ref 82), (2, .int x2), (3, .int x3), (4, .int 0), (5, .int 0)] [] μ17 K) ∧ (((inB x3 (0 : Int32) (4 : Int32)) = false) → K (some (.int (-7))) μ)) ∧ (((inB x2 0 6) = false) → K (some (.int (-5))) μ))) : Ev2 G mX8_soonest 5 0 [(0, .ref 82), (1, .int x1), (2, .int x2), (3, .int x3)] [] μ K := by
  refine ev_iload_n dX8_soonest_0 1 rfl ?_
  refine e2_callS (w := .int (bi (inB x1 0 6))) (μ1 := μ) (as := [.int x1]) (st := []) ok_X8_isPlace sv_X8_isPlace ml_8_18 dX8_soonest_1 rfl rfl (Nat.le_of_ble_eq_true rfl) (Nat.le_of_ble_eq_true rfl) (by decide) (ct_X8_isPlace (x1) μ) ?_
  refine ev_ifeq_bi (tgt := 14) dX8_soonest_4 rfl (fun c1 => ?_) (fun c1 => ?_)
  · have h2 := h.1 c1
    refine ev_bipush (v := (-5)) dX8_soonest_14 rfl ?_
    exact ev_ireturn dX8_soonest_16 rfl True.intro rfl rfl ⟨rfl, h2⟩
  · have h3 := h.2 c1
    refine ev_iload_n dX8_soonest_7 2 rfl ?_
    refine e2_callS (w := .int (bi (inB x2 0 6))) (μ1 := μ) (as := [.int x2]) (st := []) ok_X8_isPlace sv_X8_isPlace ml_8_18 dX8_soonest_8 rfl rfl (Nat.le_of_ble_eq_true rfl) (Nat.le_of_ble_eq_true rfl) (by decide) (ct_X8_isPlace (x2) μ) ?_
    refine ev_ifne_bi (tgt := 17) dX8_soonest_11 rfl (fun c4 => ?_) (fun c4 => ?_)
    · have h5 := h3.1 c4
      refine ev_iload_n dX8_soonest_17 3 rfl ?_
      refine ev_iconst (v := 0) dX8_soonest_18 rfl ?_
      refine ev_iconst (v := 4) dX8_soonest_19 rfl ?_
      refine e2_callS (w := .int (bi (inB x3 (0 : Int32) (4 : Int32)))) (μ1 := μ) (as := [.int x3, .int 0, .int 4]) (st := []) ok_X8_isIn sv_X8_isIn ml_8_3 dX8_soonest_20 rfl rfl (Nat.le_of_ble_eq_true rfl) (Nat.le_of_ble_eq_true rfl) (by decide) (ct_X8_isIn (x3) (0) (4) μ) ?_
      refine ev_ifne_bi (tgt := 29) dX8_soonest_23 rfl (fun c7 => ?_) (fun c7 => ?_)
      · have h8 := h5.1 c7
        refine ev_aload_n dX8_soonest_29 0 rfl (by decide) ?_
        refine ev_iload_n dX8_soonest_30 1 rfl ?_
        refine ev_aload_n dX8_soonest_31 0 rfl (by decide) ?_
        refine e2_callV (w := .int ((((1 : Int32) <<< (μ 82 4 &&& 31)) - 1))) (μ1 := μ) (a := 82) (as := []) (st := [.int x1, .ref 82]) ok_X8_everyOne vi_X8_everyOne ml_8_262 hcl_8 kd_82 dX8_soonest_32 rfl rfl (Nat.le_of_ble_eq_true rfl) (Nat.le_of_ble_eq_true rfl) (by decide) (ct_X8_everyOne μ) ?_
        have p10 := h8.1
        have h11 := h8.2
        refine e2_callVrv (Rl := fun μ12 => onlyM 99 105 μ μ12 ∧ eq7 (get4 101 μ12) (refS α ((((1 : Int32) <<< (μ 82 4 &&& 31)) - 1)) x1.toNatClampNeg)) (a := 82) (as := [.int x1, .int ((((1 : Int32) <<< (μ 82 4 &&& 31)) - 1))]) (st := []) ok_X8_goFrom vi_X8_goFrom ml_8_256 hcl_8 kd_82 dX8_soonest_35 rfl rfl (Nat.le_of_ble_eq_true rfl) (Nat.le_of_ble_eq_true rfl) (by decide) (ct_X8_goFrom hf (x1) (((((1 : Int32) <<< (μ 82 4 &&& 31)) - 1))) μ p10) (fun μ12 r13 => ?_)
        have h14 := h11 μ12 r13
        refine ev_aload_n dX8_soonest_38 0 rfl (by decide) ?_
        refine ev_iload_n dX8_soonest_39 2 rfl ?_
        have p15 := h14.1
        have h16 := h14.2
        refine e2_callVrv (Rl := fun μ17 => wyR μ12 (backL (get4 101 μ12) 7 x2.toNatClampNeg) μ17) (a := 82) (as := [.int x2]) (st := []) ok_X8_wayTo vi_X8_wayTo ml_8_266 hcl_8 kd_82 dX8_soonest_40 rfl rfl (Nat.le_of_ble_eq_true rfl) (Nat.le_of_ble_eq_true rfl) (by decide) (ct_X8_wayTo (x2) μ12 p15) (fun μ17 r18 => ?_)
        have h19 := h16 μ17 r18
        refine ev_iconst (v := 0) dX8_soonest_43 rfl ?_
        refine ev_istore (lv' := [(0, .ref 82), (1, .int x1), (2, .int x2), (3, .int x3), (4, .int 0)]) dX8_soonest_44 (by decide) [1, 2, 3, 4, 0] rfl ?_
        refine ev_iconst (v := 0) dX8_soonest_46 rfl ?_
        refine ev_istore (lv' := [(0, .ref 82), (1, .int x1), (2, .int x2), (3, .int x3), (4, .int 0), (5, .int 0)]) dX8_soonest_47 (by decide) [1, 2, 3, 4, 5, 0] rfl ?_
        refine EvW.less [0, 2, 3, 4, 5] (lv' := [(0, .ref 82), (2, .int x2), (3, .int x3), (4, .int 0), (5, .int 0)]) rfl ?_
        exact h19
      · have h9 := h5.2 c7
        refine ev_bipush (v := (-7)) dX8_soonest_26 rfl ?_
        exact ev_ireturn dX8_soonest_28 rfl True.intro rfl rfl ⟨rfl, h9⟩
    · have h6 := h3.2 c4
      refine ev_bipush (v := (-5)) dX8_soonest_14 rfl ?_
      exact ev_ireturn dX8_soonest_16 rfl True.intro rfl rfl ⟨rfl, h6⟩
theorem sg_X8_soonest_49 {G : GW} {K : Option Value → Mem → Prop} {μ : Mem} {α : Mem} (hf : WF α) {x2 x3 x4 x5 : Int32}  (h : (((μ 82 38) ≤ x5) → (((μ 82 38) = 0) → Ev2 G mX8_soonest 5 158 [(0, .ref 82), (2, .int x2), (3, .int x3), (4, .int x4), (5, .int (-1))] [] μ K) ∧ ((¬ ((μ 82 38) = 0)) → (vp_in (μ 106 0) 7) ∧ ((¬ (μ 102 (μ 106 0).toNatClampNeg) = 7) → (vp_in (μ 106 0) 7) ∧ ∀ y14 : Int32, y14 = (μ 102 (μ 106 0).toNatClampNeg) → Ev2 G mX8_soonest 5 158 [(0, .ref 82), (2, .int x2), (3, .int x3), (4, .int x4), (5, .int y14)] [] μ K) ∧ (((μ 102 (μ 106 0).toNatClampNeg) = 7) → Ev2 G mX8_soonest 5 158 [(0, .ref 82), (2, .int x2), (3, .int x3), (4, .int x4), (5, .int (-1))] [] μ K))) ∧ ((¬ ((μ 82 38) ≤ x5)) → (vp_in x5 7) ∧ (vp_in (μ 106 x5.toNatClampNeg) 7) ∧ ((¬ (μ 102 (μ 106 x5.toNatClampNeg).toNatClampNeg) = 7) → Ev2 G mX8_soonest 5 49 [(0, .ref 82), (2, .int x2), (3, .int x3), (4, .int (x4 + 0)), (5, .int (x5 + 1))] [] μ K) ∧ (((μ 102 (μ 106 x5.toNatClampNeg).toNatClampNeg) = 7) → (vp_in x5 7) ∧ (vp_in (μ 106 x5.toNatClampNeg) 7) ∧ (vp_in x5 7) ∧ (vp_in ((7 * (μ 103 (μ 106 x5.toNatClampNeg).toNatClampNeg)) + (μ 106 x5.toNatClampNeg)) 49) ∧ ∀ y31 : Int32, y31 = (x4 + (μ 83 ((7 * (μ 103 (μ 106 x5.toNatClampNeg).toNatClampNeg)) + (μ 106 x5.toNatClampNeg)).toNatClampNeg)) → Ev2 G mX8_soonest 5 49 [(0, .ref 82), (2, .int x2), (3, .int x3), (4, .int y31), (5, .int (x5 + 1))] [] μ K))) : Ev2 G mX8_soonest 5 49 [(0, .ref 82), (2, .int x2), (3, .int x3), (4, .int x4), (5, .int x5)] [] μ K := by
  refine ev_iload dX8_soonest_49 4 rfl ?_
  refine ev_aload_n dX8_soonest_51 0 rfl (by decide) ?_
  refine ev_getI' (v := (μ 82 38)) fl_8_259 rfl kd_82 rfl dX8_soonest_52 ?_
  refine ev_icmp_ge (tgt := 118) dX8_soonest_55 rfl (fun c1 => ?_) (fun c1 => ?_)
  · have h2 := h.1 c1
    refine ev_aload_n dX8_soonest_118 0 rfl (by decide) ?_
    refine ev_getI' (v := (μ 82 38)) fl_8_259 rfl kd_82 rfl dX8_soonest_119 ?_
    refine ev_if_eq (tgt := 141) dX8_soonest_122 rfl (fun c4 => ?_) (fun c4 => ?_)
    · have h5 := h2.1 c4
      refine ev_iconst (v := (-1)) dX8_soonest_141 rfl ?_
      refine ev_goto (tgt := 156) dX8_soonest_142 rfl ?_
      refine ev_istore (lv' := [(0, .ref 82), (2, .int x2), (3, .int x3), (4, .int x4), (5, .int (-1))]) dX8_soonest_156 (by decide) [1, 2, 3, 4, 0] rfl ?_
      exact h5
    · have h6 := h2.2 c4
      refine ev_aload_n dX8_soonest_125 0 rfl (by decide) ?_
      refine ev_getR' fl_8_204 rfl kd_82 rf_82_33 dX8_soonest_126 ?_
      refine ev_aload_n dX8_soonest_129 0 rfl (by decide) ?_
      refine ev_getR' fl_8_216 rfl kd_82 rf_82_37 dX8_soonest_130 ?_
      refine ev_iconst (v := 0) dX8_soonest_133 rfl ?_
      refine ev_iaload' (v := (μ 106 0)) kd_106 ln_106 (vp_c ⟨rfl, rfl⟩) rfl dX8_soonest_134 ?_
      have p7 := h6.1
      have h8 := h6.2
      refine ev_iaload' (v := (μ 102 (μ 106 0).toNatClampNeg)) kd_102 ln_102 p7 rfl dX8_soonest_135 ?_
      refine ev_bipush (v := 7) dX8_soonest_136 rfl ?_
      refine ev_icmp_ne (tgt := 145) dX8_soonest_138 rfl (fun c9 => ?_) (fun c9 => ?_)
      · have h10 := h8.1 c9
        refine ev_aload_n dX8_soonest_145 0 rfl (by decide) ?_
        refine ev_getR' fl_8_204 rfl kd_82 rf_82_33 dX8_soonest_146 ?_
        refine ev_aload_n dX8_soonest_149 0 rfl (by decide) ?_
        refine ev_getR' fl_8_216 rfl kd_82 rf_82_37 dX8_soonest_150 ?_
        refine ev_iconst (v := 0) dX8_soonest_153 rfl ?_
        refine ev_iaload' (v := (μ 106 0)) kd_106 ln_106 (vp_c ⟨rfl, rfl⟩) rfl dX8_soonest_154 ?_
        have p12 := h10.1
        have h13 := h10.2
        refine ev_iaload' (v := (μ 102 (μ 106 0).toNatClampNeg)) kd_102 ln_102 p12 rfl dX8_soonest_155 ?_
        refine ev_top (fun y14 ey14 => ?_)
        have h15 := h13 y14 ey14
        refine ev_istore (lv' := [(0, .ref 82), (2, .int x2), (3, .int x3), (4, .int x4), (5, .int y14)]) dX8_soonest_156 (by decide) [1, 2, 3, 4, 0] rfl ?_
        exact h15
      · have h11 := h8.2 c9
        refine ev_iconst (v := (-1)) dX8_soonest_141 rfl ?_
        refine ev_goto (tgt := 156) dX8_soonest_142 rfl ?_
        refine ev_istore (lv' := [(0, .ref 82), (2, .int x2), (3, .int x3), (4, .int x4), (5, .int (-1))]) dX8_soonest_156 (by decide) [1, 2, 3, 4, 0] rfl ?_
        exact h11
  · have h3 := h.2 c1
    refine ev_iload dX8_soonest_58 3 rfl ?_
    refine ev_aload_n dX8_soonest_60 0 rfl (by decide) ?_
    refine ev_getR' fl_8_204 rfl kd_82 rf_82_33 dX8_soonest_61 ?_
    refine ev_aload_n dX8_soonest_64 0 rfl (by decide) ?_
    refine ev_getR' fl_8_216 rfl kd_82 rf_82_37 dX8_soonest_65 ?_
    refine ev_iload dX8_soonest_68 4 rfl ?_
    have p16 := h3.1
    have h17 := h3.2
    refine ev_iaload' (v := (μ 106 x5.toNatClampNeg)) kd_106 ln_106 p16 rfl dX8_soonest_70 ?_
    have p18 := h17.1
    have h19 := h17.2
    refine ev_iaload' (v := (μ 102 (μ 106 x5.toNatClampNeg).toNatClampNeg)) kd_102 ln_102 p18 rfl dX8_soonest_71 ?_
    refine ev_bipush (v := 7) dX8_soonest_72 rfl ?_
    refine ev_icmp_ne (tgt := 108) dX8_soonest_74 rfl (fun c20 => ?_) (fun c20 => ?_)
    · have h21 := h19.1 c20
      refine ev_iconst (v := 0) dX8_soonest_108 rfl ?_
      refine ev_iadd dX8_soonest_109 ?_
      refine ev_istore (lv' := [(0, .ref 82), (2, .int x2), (3, .int x3), (4, .int (x4 + 0)), (5, .int x5)]) dX8_soonest_110 (by decide) [1, 2, 3, 0, 4] rfl ?_
      refine ev_iinc (v := (x5 + 1)) (lv' := [(0, .ref 82), (2, .int x2), (3, .int x3), (4, .int (x4 + 0)), (5, .int (x5 + 1))]) dX8_soonest_112 4 rfl rfl (by decide) [1, 2, 3, 4, 0] rfl ?_
      refine ev_goto (tgt := 49) dX8_soonest_115 rfl ?_
      exact h21
    · have h22 := h19.2 c20
      refine ev_aload_n dX8_soonest_77 0 rfl (by decide) ?_
      refine ev_getR' fl_8_14 rfl kd_82 rf_82_0 dX8_soonest_78 ?_
      refine ev_bipush (v := 7) dX8_soonest_81 rfl ?_
      refine ev_aload_n dX8_soonest_83 0 rfl (by decide) ?_
      refine ev_getR' fl_8_207 rfl kd_82 rf_82_34 dX8_soonest_84 ?_
      refine ev_aload_n dX8_soonest_87 0 rfl (by decide) ?_
      refine ev_getR' fl_8_216 rfl kd_82 rf_82_37 dX8_soonest_88 ?_
      refine ev_iload dX8_soonest_91 4 rfl ?_
      have p23 := h22.1
      have h24 := h22.2
      refine ev_iaload' (v := (μ 106 x5.toNatClampNeg)) kd_106 ln_106 p23 rfl dX8_soonest_93 ?_
      have p25 := h24.1
      have h26 := h24.2
      refine ev_iaload' (v := (μ 103 (μ 106 x5.toNatClampNeg).toNatClampNeg)) kd_103 ln_103 p25 rfl dX8_soonest_94 ?_
      refine ev_imul dX8_soonest_95 ?_
      refine ev_aload_n dX8_soonest_96 0 rfl (by decide) ?_
      refine ev_getR' fl_8_216 rfl kd_82 rf_82_37 dX8_soonest_97 ?_
      refine ev_iload dX8_soonest_100 4 rfl ?_
      have p27 := h26.1
      have h28 := h26.2
      refine ev_iaload' (v := (μ 106 x5.toNatClampNeg)) kd_106 ln_106 p27 rfl dX8_soonest_102 ?_
      refine ev_iadd dX8_soonest_103 ?_
      have p29 := h28.1
      have h30 := h28.2
      refine ev_iaload' (v := (μ 83 ((7 * (μ 103 (μ 106 x5.toNatClampNeg).toNatClampNeg)) + (μ 106 x5.toNatClampNeg)).toNatClampNeg)) kd_83 ln_83 p29 rfl dX8_soonest_104 ?_
      refine ev_goto (tgt := 109) dX8_soonest_105 rfl ?_
      refine ev_iadd dX8_soonest_109 ?_
      refine ev_top (fun y31 ey31 => ?_)
      have h32 := h30 y31 ey31
      refine ev_istore (lv' := [(0, .ref 82), (2, .int x2), (3, .int x3), (4, .int y31), (5, .int x5)]) dX8_soonest_110 (by decide) [1, 2, 3, 0, 4] rfl ?_
      refine ev_iinc (v := (x5 + 1)) (lv' := [(0, .ref 82), (2, .int x2), (3, .int x3), (4, .int y31), (5, .int (x5 + 1))]) dX8_soonest_112 4 rfl rfl (by decide) [1, 2, 3, 4, 0] rfl ?_
      refine ev_goto (tgt := 49) dX8_soonest_115 rfl ?_
      exact h32
theorem sg_X8_soonest_158 {G : GW} {K : Option Value → Mem → Prop} {μ : Mem} {α : Mem} (hf : WF α) {x2 x3 x4 x5 : Int32}  (h : ((¬ x3 = 0) → ((¬ x3 = 1) → ((¬ x3 = 2) → ((¬ x3 = 3) → K (some (.int x5)) μ) ∧ ((x3 = 3) → K (some (.int (μ 82 38))) μ)) ∧ ((x3 = 2) → K (some (.int x4)) μ)) ∧ ((x3 = 1) → (wyP μ) ∧ K (some (.int (wsN μ (μ 82 38).toNatClampNeg))) μ)) ∧ ((x3 = 0) → (vp_in x2 7) ∧ K (some (.int (μ 101 x2.toNatClampNeg))) μ)) : Ev2 G mX8_soonest 5 158 [(0, .ref 82), (2, .int x2), (3, .int x3), (4, .int x4), (5, .int x5)] [] μ K := by
  refine ev_iload_n dX8_soonest_158 2 rfl ?_
  refine ev_if_ne (tgt := 171) dX8_soonest_159 rfl (fun c1 => ?_) (fun c1 => ?_)
  · have h2 := h.1 c1
    refine ev_iload_n dX8_soonest_171 2 rfl ?_
    refine ev_iconst (v := 1) dX8_soonest_172 rfl ?_
    refine ev_icmp_ne (tgt := 183) dX8_soonest_173 rfl (fun c4 => ?_) (fun c4 => ?_)
    · have h5 := h2.1 c4
      refine ev_iload_n dX8_soonest_183 2 rfl ?_
      refine ev_iconst (v := 2) dX8_soonest_184 rfl ?_
      refine ev_icmp_ne (tgt := 193) dX8_soonest_185 rfl (fun c7 => ?_) (fun c7 => ?_)
      · have h8 := h5.1 c7
        refine ev_iload_n dX8_soonest_193 2 rfl ?_
        refine ev_iconst (v := 3) dX8_soonest_194 rfl ?_
        refine ev_icmp_ne (tgt := 205) dX8_soonest_195 rfl (fun c10 => ?_) (fun c10 => ?_)
        · have h11 := h8.1 c10
          refine ev_iload dX8_soonest_205 4 rfl ?_
          exact ev_ireturn dX8_soonest_207 rfl True.intro rfl rfl ⟨rfl, h11⟩
        · have h12 := h8.2 c10
          refine ev_aload_n dX8_soonest_198 0 rfl (by decide) ?_
          refine ev_getI' (v := (μ 82 38)) fl_8_259 rfl kd_82 rfl dX8_soonest_199 ?_
          refine ev_goto (tgt := 207) dX8_soonest_202 rfl ?_
          exact ev_ireturn dX8_soonest_207 rfl True.intro rfl rfl ⟨rfl, h12⟩
      · have h9 := h5.2 c7
        refine ev_iload dX8_soonest_188 3 rfl ?_
        refine ev_goto (tgt := 207) dX8_soonest_190 rfl ?_
        exact ev_ireturn dX8_soonest_207 rfl True.intro rfl rfl ⟨rfl, h9⟩
    · have h6 := h2.2 c4
      refine ev_aload_n dX8_soonest_176 0 rfl (by decide) ?_
      have p13 := h6.1
      have h14 := h6.2
      refine e2_callV (w := .int (wsN μ (μ 82 38).toNatClampNeg)) (μ1 := μ) (a := 82) (as := []) (st := []) ok_X8_waySet vi_X8_waySet ml_8_269 hcl_8 kd_82 dX8_soonest_177 rfl rfl (Nat.le_of_ble_eq_true rfl) (Nat.le_of_ble_eq_true rfl) (by decide) (ct_X8_waySet μ p13) ?_
      refine ev_goto (tgt := 207) dX8_soonest_180 rfl ?_
      exact ev_ireturn dX8_soonest_207 rfl True.intro rfl rfl ⟨rfl, h14⟩
  · have h3 := h.2 c1
    refine ev_aload_n dX8_soonest_162 0 rfl (by decide) ?_
    refine ev_getR' fl_8_201 rfl kd_82 rf_82_32 dX8_soonest_163 ?_
    refine ev_iload_n dX8_soonest_166 1 rfl ?_
    have p15 := h3.1
    have h16 := h3.2
    refine ev_iaload' (v := (μ 101 x2.toNatClampNeg)) kd_101 ln_101 p15 rfl dX8_soonest_167 ?_
    refine ev_goto (tgt := 207) dX8_soonest_168 rfl ?_
    exact ev_ireturn dX8_soonest_207 rfl True.intro rfl rfl ⟨rfl, h16⟩
theorem sm_key {w : Nat → Nat → Int32} {τ : Mem} {l : List Nat} {i p : Nat} (hi : i < l.length) (e : l.drop (l.length - 1 - i) = p :: l.drop (l.length - i)) : smR w τ (l.drop (l.length - (i + 1))) = smR w τ (l.drop (l.length - i)) + (if τ 1 p = 7 then w (τ 2 p).toNatClampNeg p else 0) := by
  rw [show l.length - (i + 1) = l.length - 1 - i by omega, e]
  rfl
theorem lp_X8_soonest {G : GW} {K : Option Value → Mem → Prop} {α ν : Mem} (hf : WF α) (h : VM α ν) {set : Int32} (hs : setOK (aN α) set) {a b : Nat} (ha : a < 7) (hb : b < 7) (hq : wayQ α set a b ν) {x3 : Int32} (hk : Ev2 G mX8_soonest 5 158 [(0, .ref 82), (2, .int (nI b)), (3, .int x3), (4, .int (wlkS (wA α) (refS α set a) 0 (wayR α set a b))), (5, .int (firstF (pieceS (refS α set a) (wayR α set a b) 0)))] [] ν K) : ∀ j i, i + j = (wayR α set a b).length → Ev2 G mX8_soonest 5 49 [(0, .ref 82), (2, .int (nI b)), (3, .int x3), (4, .int (smR (wA α) (refS α set a) ((wayR α set a b).drop ((wayR α set a b).length - i)))), (5, .int (nI i))] [] ν K := by
  have hl := wayR_len hf hs ha hb
  obtain ⟨r1, r2⟩ := refS_inv hf hs ha
  have hat := fun (i : Nat) (hi : i < (wayR α set a b).length) => hq.at_ hf hs ha hb hi
  have hrow := hq.2
  have h38 := hq.1.1
  clear hq
  generalize wayR α set a b = l at *
  generalize refS α set a = τ at *
  have eW : wlkS (wA α) τ 0 l = smR (wA α) τ l := by rw [smR_eq, Int32.zero_add]
  rw [eW] at hk
  intro j
  induction j with
  | zero =>
    intro i hi
    obtain rfl : i = l.length := hi
    rw [Nat.sub_self, List.drop_zero]
    refine sg_X8_soonest_49 hf ?_
    rw [h38]
    refine ⟨fun _ => ⟨fun c => ?_, fun c => ?_⟩, fun c => absurd (Int32.le_refl _) c⟩
    · have e0 : l.length = 0 := (nI_eq (b := 0) (by omega) (by omega)).mp c
      have : l = [] := List.length_eq_zero_iff.mp e0
      subst this
      rw [pieceS_nil] at hk
      exact hk
    · have hne : 0 < l.length := Nat.pos_of_ne_zero (fun e => c (by rw [e]; rfl))
      obtain ⟨p, hp, hpa, e1, -, e3⟩ := hat 0 hne
      have e4 := pieceS_i (τ := τ) (i := 0) (by omega) hne e3
      have e4 : pieceS τ l 0 = pieceV τ p := e4
      rw [e4, first_ref r1 hp hpa] at hk
      rw [e1, ix_nI (by omega), (hrow p hp).2.1]
      refine ⟨vp_nI hp (by omega), fun d => ⟨vp_nI hp (by omega), fun y hy => ?_⟩, fun d => ?_⟩
      · rw [if_neg d] at hk
        rw [hy]
        exact hk
      · rw [if_pos d] at hk
        exact hk
  | succ j ih =>
    intro i hi
    have hx := ih (i + 1) (by omega)
    obtain ⟨p, hp, hpa, e1, e2, -⟩ := hat i (by omega)
    obtain ⟨q0, q1, q2⟩ := hrow p hp
    obtain ⟨-, q, hq7, eq, -⟩ := r1.2.2.1 p hp hpa
    rw [sm_key (by omega) e2, ← nI_1] at hx
    refine sg_X8_soonest_49 hf ?_
    rw [h38, ix_nI (by omega), e1, ix_nI (by omega), q1, q2, eq]
    rw [eq, ix_nI (by omega)] at hx
    obtain ⟨z1, z2⟩ := ix_7 hq7 hp
    have vi : vp_in (nI i) 7 := vp_nI (by omega) (by omega)
    refine ⟨fun c => absurd c (nI_ge (by omega) (by omega)), fun _ => ⟨vi, vp_nI hp (by omega), fun d => ?_, fun d => ⟨vi, vp_nI hp (by omega), vi, z1, fun y hy => ?_⟩⟩⟩
    · rw [if_neg d] at hx
      exact hx
    · rw [if_pos d] at hx
      rw [z2, h.2.1 _ (by omega)] at hy
      have ew : wA α q p = α 1 (7 * q + p) := if_pos hq7
      rw [ew, ← hy] at hx
      exact hx
theorem pb_X8_soonest {G : GW} {α μ : Mem} (hf : WF α) (h : VM α μ) (x1 x2 x3 : Int32) : pubM G mX8_soonest 5 [(0, .ref 82), (1, .int x1), (2, .int x2), (3, .int x3)] α μ (.int (sp_soonest α x1 x2 x3)) α := by
  have hs := allA_ok hf.1
  refine sg_X8_soonest_0 hf ?_
  rw [h.all]
  unfold sp_soonest
  refine ⟨fun c => ?_, fun c => ⟨fun d => ⟨fun e => ?_, fun e => ?_⟩, fun d => ?_⟩⟩
  · rw [if_neg (by rw [c]; decide)]
    exact ⟨rfl, h, keepX.rf μ⟩
  · have hsel : x3 = 0 ∨ x3 = 1 ∨ x3 = 2 ∨ x3 = 3 ∨ x3 = 4 := by
      obtain ⟨p, hp, rfl⟩ := inB_nI (m := 4) (by omega) e
      rcases (show p = 0 ∨ p = 1 ∨ p = 2 ∨ p = 3 ∨ p = 4 by omega) with rfl | rfl | rfl | rfl | rfl
      · exact Or.inl rfl
      · exact Or.inr (Or.inl rfl)
      · exact Or.inr (Or.inr (Or.inl rfl))
      · exact Or.inr (Or.inr (Or.inr (Or.inl rfl)))
      · exact Or.inr (Or.inr (Or.inr (Or.inr rfl)))
    refine ⟨⟨h, c, hs⟩, fun ν hν => ?_⟩
    rw [if_pos c, if_pos d]
    obtain ⟨a, ha, rfl⟩ := inB_p c
    obtain ⟨b, hb, rfl⟩ := inB_p d
    rw [ix_nI (i := a) (by omega)] at hν
    obtain ⟨h1, k1⟩ := h.o hf hν.1
    refine ⟨⟨⟨_, _, ref_ch hf hs ha hν.2⟩, d⟩, fun ξ hξ => ?_⟩
    rw [ix_nI (i := b) (by omega)] at hξ
    obtain ⟨hq, hsc⟩ := ref_way hf hs ha hb hν.2 hξ
    obtain ⟨h2, k2⟩ := h1.scr hf hsc
    obtain ⟨w1, w2, w3, w4⟩ := way_stop hf hs ha hb
    have hP : pieceS (runA α (allA α) (nI b) a) (wayR α (allA α) a b) 0 = pieceS (refS α (allA α) a) (wayR α (allA α) a b) 0 := by
      by_cases cl : (wayR α (allA α) a b).length = 0
      · rw [List.length_eq_zero_iff.mp cl, pieceS_nil, pieceS_nil]
      · obtain ⟨p, hp, hpa, e1, e2, e3⟩ := hq.at_ hf hs ha hb (Nat.pos_of_ne_zero cl)
        have hl := wayR_len hf hs ha hb
        have g := fun τ => pieceS_i (τ := τ) (i := 0) (by omega) (Nat.pos_of_ne_zero cl) e3
        have g1 : ∀ τ, pieceS τ (wayR α (allA α) a b) 0 = pieceV τ p := g
        rw [g1, g1]
        exact (w4 p (by
          have : p ∈ (wayR α (allA α) a b).drop ((wayR α (allA α) a b).length - 1 - 0) := by rw [e2]; exact List.mem_cons_self
          exact List.mem_of_mem_drop this)).1
    have eA : wayA α a b = wayR α (allA α) a b := w1
    rw [ix_nI (i := a) (by omega), ix_nI (i := b) (by omega), eA, w2, w3, hP, soon_ref hf hs ha hb]
    have L := lp_X8_soonest (G := G) hf h2 hs ha hb hq (x3 := x3) (K := fun v μ' => v = some (.int (sel5 x3 (refS α (allA α) a 0 b) (wayHs (refS α (allA α) a) 0 (wayR α (allA α) a b)) (wlkS (wA α) (refS α (allA α) a) 0 (wayR α (allA α) a b)) (nI (wayR α (allA α) a b).length) (firstF (pieceS (refS α (allA α) a) (wayR α (allA α) a b) 0)))) ∧ VM α μ' ∧ keepX μ μ') ?_ (wayR α (allA α) a b).length 0 (Nat.zero_add _)
    · have e0 : smR (wA α) (refS α (allA α) a) ((wayR α (allA α) a b).drop ((wayR α (allA α) a b).length - 0)) = 0 := by
        rw [Nat.sub_zero, List.drop_length]
        rfl
      rw [e0] at L
      exact L
    · refine sg_X8_soonest_158 hf ?_
      have hP2 := hq.P hf hs ha hb
      have hst := hq.set hf hs ha hb
      have h0 := (hq.2 b hb).1
      have h38 := hq.1.1
      have kk : VM α ξ ∧ keepX μ ξ := ⟨h2, k1.tr k2⟩
      clear hq hξ hsc hP hν w1 w2 w3 w4 eA
      rw [hst, h38, ix_nI (by omega), h0]
      generalize wayR α (allA α) a b = l at *
      generalize refS α (allA α) a = τ at *
      generalize firstF (pieceS τ l 0) = fi
      generalize wlkS (wA α) τ 0 l = wl
      generalize wayHs τ 0 l = wh
      refine ⟨fun d0 => ⟨fun d1 => ⟨fun d2 => ⟨fun d3 => ⟨?_, kk⟩, fun d3 => ⟨?_, kk⟩⟩, fun d2 => ⟨?_, kk⟩⟩, fun d1 => ⟨hP2, ?_, kk⟩⟩, fun d0 => ⟨vp_nI hb (by omega), ?_, kk⟩⟩
      · rw [sel5_4 (((hsel.resolve_left d0).resolve_left d1).resolve_left d2 |>.resolve_left d3)]
      · rw [sel5_3 d3]
      · rw [sel5_2 d2]
      · rw [sel5_1 d1]
      · rw [sel5_0 d0]
  · rw [if_pos c, if_pos d]
    have no : ∀ k : Nat, k ≤ 4 → ¬ x3 = nI k := fun k hk q => by
      have e : inB x3 0 (nI 4) = false := e
      rw [q, inB_of (m := 4) (by omega) hk] at e
      cases e
    rw [sel5_no (no 0 (by omega)) (no 1 (by omega)) (no 2 (by omega)) (no 3 (by omega)) (no 4 (by omega))]
    exact ⟨rfl, h, keepX.rf μ⟩
  · rw [if_pos c, if_neg (by rw [d]; decide)]
    exact ⟨rfl, h, keepX.rf μ⟩
theorem sg_X8_piece_0 {G : GW} {K : Option Value → Mem → Prop} {μ : Mem} {α : Mem} (hf : WF α) {x1 x2 x3 : Int32}  (h : (((inB x1 0 6) = false) → K (some (.int (-5))) μ) ∧ (((inB x1 0 6) = true) → (((inB x2 0 6) = true) → ((0 ≤ x3) → (VM α μ ∧ inB x1 0 6 = true ∧ setOK (aN α) ((((1 : Int32) <<< (μ 82 4 &&& 31)) - 1))) ∧ ∀ μ12 : Mem, (onlyM 99 105 μ μ12 ∧ eq7 (get4 101 μ12) (refS α ((((1 : Int32) <<< (μ 82 4 &&& 31)) - 1)) x1.toNatClampNeg)) → ((∃ w a, chP w a μ12) ∧ inB x2 0 6 = true) ∧ ∀ μ17 : Mem, (wyR μ12 (backL (get4 101 μ12) 7 x2.toNatClampNeg) μ17) → (((μ17 82 38) ≤ x3) → K (some (.int (-1))) μ17) ∧ ((¬ ((μ17 82 38) ≤ x3)) → (vp_in x3 7) ∧ (vp_in (μ17 106 x3.toNatClampNeg) 7) ∧ (vp_in x3 7) ∧ K (some (.int ((10 * (μ17 102 (μ17 106 x3.toNatClampNeg).toNatClampNeg)) + (μ17 106 x3.toNatClampNeg)))) μ17)) ∧ ((¬ (0 ≤ x3)) → K (some (.int (-7))) μ)) ∧ (((inB x2 0 6) = false) → K (some (.int (-5))) μ))) : Ev2 G mX8_piece 5 0 [(0, .ref 82), (1, .int x1), (2, .int x2), (3, .int x3)] [] μ K := by
  refine ev_iload_n dX8_piece_0 1 rfl ?_
  refine e2_callS (w := .int (bi (inB x1 0 6))) (μ1 := μ) (as := [.int x1]) (st := []) ok_X8_isPlace sv_X8_isPlace ml_8_18 dX8_piece_1 rfl rfl (Nat.le_of_ble_eq_true rfl) (Nat.le_of_ble_eq_true rfl) (by decide) (ct_X8_isPlace (x1) μ) ?_
  refine ev_ifeq_bi (tgt := 14) dX8_piece_4 rfl (fun c1 => ?_) (fun c1 => ?_)
  · have h2 := h.1 c1
    refine ev_bipush (v := (-5)) dX8_piece_14 rfl ?_
    exact ev_ireturn dX8_piece_16 rfl True.intro rfl rfl ⟨rfl, h2⟩
  · have h3 := h.2 c1
    refine ev_iload_n dX8_piece_7 2 rfl ?_
    refine e2_callS (w := .int (bi (inB x2 0 6))) (μ1 := μ) (as := [.int x2]) (st := []) ok_X8_isPlace sv_X8_isPlace ml_8_18 dX8_piece_8 rfl rfl (Nat.le_of_ble_eq_true rfl) (Nat.le_of_ble_eq_true rfl) (by decide) (ct_X8_isPlace (x2) μ) ?_
    refine ev_ifne_bi (tgt := 17) dX8_piece_11 rfl (fun c4 => ?_) (fun c4 => ?_)
    · have h5 := h3.1 c4
      refine ev_iload_n dX8_piece_17 3 rfl ?_
      refine ev_if_ge (tgt := 24) dX8_piece_18 rfl (fun c7 => ?_) (fun c7 => ?_)
      · have h8 := h5.1 c7
        refine ev_aload_n dX8_piece_24 0 rfl (by decide) ?_
        refine ev_iload_n dX8_piece_25 1 rfl ?_
        refine ev_aload_n dX8_piece_26 0 rfl (by decide) ?_
        refine e2_callV (w := .int ((((1 : Int32) <<< (μ 82 4 &&& 31)) - 1))) (μ1 := μ) (a := 82) (as := []) (st := [.int x1, .ref 82]) ok_X8_everyOne vi_X8_everyOne ml_8_262 hcl_8 kd_82 dX8_piece_27 rfl rfl (Nat.le_of_ble_eq_true rfl) (Nat.le_of_ble_eq_true rfl) (by decide) (ct_X8_everyOne μ) ?_
        have p10 := h8.1
        have h11 := h8.2
        refine e2_callVrv (Rl := fun μ12 => onlyM 99 105 μ μ12 ∧ eq7 (get4 101 μ12) (refS α ((((1 : Int32) <<< (μ 82 4 &&& 31)) - 1)) x1.toNatClampNeg)) (a := 82) (as := [.int x1, .int ((((1 : Int32) <<< (μ 82 4 &&& 31)) - 1))]) (st := []) ok_X8_goFrom vi_X8_goFrom ml_8_256 hcl_8 kd_82 dX8_piece_30 rfl rfl (Nat.le_of_ble_eq_true rfl) (Nat.le_of_ble_eq_true rfl) (by decide) (ct_X8_goFrom hf (x1) (((((1 : Int32) <<< (μ 82 4 &&& 31)) - 1))) μ p10) (fun μ12 r13 => ?_)
        have h14 := h11 μ12 r13
        refine ev_aload_n dX8_piece_33 0 rfl (by decide) ?_
        refine ev_iload_n dX8_piece_34 2 rfl ?_
        have p15 := h14.1
        have h16 := h14.2
        refine e2_callVrv (Rl := fun μ17 => wyR μ12 (backL (get4 101 μ12) 7 x2.toNatClampNeg) μ17) (a := 82) (as := [.int x2]) (st := []) ok_X8_wayTo vi_X8_wayTo ml_8_266 hcl_8 kd_82 dX8_piece_35 rfl rfl (Nat.le_of_ble_eq_true rfl) (Nat.le_of_ble_eq_true rfl) (by decide) (ct_X8_wayTo (x2) μ12 p15) (fun μ17 r18 => ?_)
        have h19 := h16 μ17 r18
        refine ev_iload_n dX8_piece_38 3 rfl ?_
        refine ev_aload_n dX8_piece_39 0 rfl (by decide) ?_
        refine ev_getI' (v := (μ17 82 38)) fl_8_259 rfl kd_82 rfl dX8_piece_40 ?_
        refine ev_icmp_ge (tgt := 70) dX8_piece_43 rfl (fun c20 => ?_) (fun c20 => ?_)
        · have h21 := h19.1 c20
          refine ev_iconst (v := (-1)) dX8_piece_70 rfl ?_
          exact ev_ireturn dX8_piece_71 rfl True.intro rfl rfl ⟨rfl, h21⟩
        · have h22 := h19.2 c20
          refine ev_bipush (v := 10) dX8_piece_46 rfl ?_
          refine ev_aload_n dX8_piece_48 0 rfl (by decide) ?_
          refine ev_getR' fl_8_204 rfl kd_82 rf_82_33 dX8_piece_49 ?_
          refine ev_aload_n dX8_piece_52 0 rfl (by decide) ?_
          refine ev_getR' fl_8_216 rfl kd_82 rf_82_37 dX8_piece_53 ?_
          refine ev_iload_n dX8_piece_56 3 rfl ?_
          have p23 := h22.1
          have h24 := h22.2
          refine ev_iaload' (v := (μ17 106 x3.toNatClampNeg)) kd_106 ln_106 p23 rfl dX8_piece_57 ?_
          have p25 := h24.1
          have h26 := h24.2
          refine ev_iaload' (v := (μ17 102 (μ17 106 x3.toNatClampNeg).toNatClampNeg)) kd_102 ln_102 p25 rfl dX8_piece_58 ?_
          refine ev_imul dX8_piece_59 ?_
          refine ev_aload_n dX8_piece_60 0 rfl (by decide) ?_
          refine ev_getR' fl_8_216 rfl kd_82 rf_82_37 dX8_piece_61 ?_
          refine ev_iload_n dX8_piece_64 3 rfl ?_
          have p27 := h26.1
          have h28 := h26.2
          refine ev_iaload' (v := (μ17 106 x3.toNatClampNeg)) kd_106 ln_106 p27 rfl dX8_piece_65 ?_
          refine ev_iadd dX8_piece_66 ?_
          refine ev_goto (tgt := 71) dX8_piece_67 rfl ?_
          exact ev_ireturn dX8_piece_71 rfl True.intro rfl rfl ⟨rfl, h28⟩
      · have h9 := h5.2 c7
        refine ev_bipush (v := (-7)) dX8_piece_21 rfl ?_
        exact ev_ireturn dX8_piece_23 rfl True.intro rfl rfl ⟨rfl, h9⟩
    · have h6 := h3.2 c4
      refine ev_bipush (v := (-5)) dX8_piece_14 rfl ?_
      exact ev_ireturn dX8_piece_16 rfl True.intro rfl rfl ⟨rfl, h6⟩
theorem pb_X8_piece {G : GW} {α μ : Mem} (hf : WF α) (h : VM α μ) (x1 x2 x3 : Int32) : pubM G mX8_piece 5 [(0, .ref 82), (1, .int x1), (2, .int x2), (3, .int x3)] α μ (.int (sp_piece α x1 x2 x3)) α := by
  have hs := allA_ok hf.1
  refine sg_X8_piece_0 hf ?_
  rw [h.all]
  unfold sp_piece
  refine ⟨fun c => ?_, fun c => ⟨fun d => ⟨fun e => ?_, fun e => ?_⟩, fun d => ?_⟩⟩
  · rw [if_neg (by rw [c]; decide)]
    exact ⟨rfl, h, keepX.rf μ⟩
  · refine ⟨⟨h, c, hs⟩, fun ν hν => ?_⟩
    rw [if_pos c, if_pos d, if_pos e]
    obtain ⟨a, ha, rfl⟩ := inB_p c
    obtain ⟨b, hb, rfl⟩ := inB_p d
    rw [ix_nI (i := a) (by omega)] at hν
    obtain ⟨h1, k1⟩ := h.o hf hν.1
    refine ⟨⟨⟨_, _, ref_ch hf hs ha hν.2⟩, d⟩, fun ξ hξ => ?_⟩
    rw [ix_nI (i := b) (by omega)] at hξ
    obtain ⟨hq, hsc⟩ := ref_way hf hs ha hb hν.2 hξ
    obtain ⟨h2, k2⟩ := h1.scr hf hsc
    obtain ⟨w1, w2, w3, w4⟩ := way_stop hf hs ha hb
    have kk : VM α ξ ∧ keepX μ ξ := ⟨h2, k1.tr k2⟩
    have hl := wayR_len hf hs ha hb
    have eA : wayA α a b = wayR α (allA α) a b := w1
    rw [ix_nI (i := a) (by omega), ix_nI (i := b) (by omega), eA, hq.1.1]
    obtain ⟨i, hi, rfl⟩ := nI_of (Int32.not_lt.mpr e)
    refine ⟨fun cl => ⟨?_, kk⟩, fun cl => ?_⟩
    · unfold pieceS
      rw [if_neg (fun q => absurd cl (Int32.not_le.mpr q.2))]
    · have hil : i < (wayR α (allA α) a b).length := by
        rcases Nat.lt_or_ge i (wayR α (allA α) a b).length with q | q
        · exact q
        · exact absurd (nI_le q hi) cl
      obtain ⟨p, hp, hpa, e1, e2, e3⟩ := hq.at_ hf hs ha hb hil
      rw [pieceS_i (by omega) hil e3, (w4 p (by
        have : p ∈ (wayR α (allA α) a b).drop ((wayR α (allA α) a b).length - 1 - i) := by rw [e2]; exact List.mem_cons_self
        exact List.mem_of_mem_drop this)).1, ix_nI (by omega), e1, ix_nI (by omega), (hq.2 p hp).2.1]
      have vi : vp_in (nI i) 7 := vp_nI (by omega) (by omega)
      exact ⟨vi, vp_nI hp (by omega), vi, rfl, kk⟩
  · rw [if_pos c, if_pos d, if_neg e]
    exact ⟨rfl, h, keepX.rf μ⟩
  · rw [if_pos c, if_neg (by rw [d]; decide)]
    exact ⟨rfl, h, keepX.rf μ⟩
/-! both -/
theorem VM.r {α μ : Mem} (hf : WF α) (h : VM α μ) {x : Int32} (c : inB x 0 (α 0 1 - 1) = true) : vp_in x 4 ∧ inB (μ 84 x.toNatClampNeg) 0 6 = true ∧ inB (μ 85 x.toNatClampNeg) 0 6 = true ∧ (μ 84 x.toNatClampNeg).toNatClampNeg = rFA α x ∧ (μ 85 x.toNatClampNeg).toNatClampNeg = rTA α x ∧ rFA α x < 7 ∧ rTA α x < 7 := by
  obtain ⟨i, hi, hi4, rfl⟩ := vR' hf c
  obtain ⟨r1, r2⟩ := h.2.2.1 i hi
  obtain ⟨⟨p, hp, ep⟩, q, hq, eq⟩ := hf.2.2.1 i hi
  unfold rFA rTA
  rw [ix_nI (by omega), r1, r2, ep, eq, ix_nI (by omega), ix_nI (by omega)]
  exact ⟨vp_nI hi4 (by omega), inB_7 hp, inB_7 hq, rfl, rfl, hp, hq⟩
theorem soon_999 {α : Mem} (hf : WF α) {set : Int32} (hs : setOK (aN α) set) {a b : Nat} (ha : a < 7) (hb : b < 7) : ∃ s, s ≤ 999 ∧ soonA α set a b = nI s := by
  rw [soon_ref hf hs ha hb]
  exact refS_lt hf hs ha hb
theorem both_1 {α : Mem} (hf : WF α) {f1 t1 f2 t2 : Nat} (h1 : f1 < 7) (h2 : t1 < 7) (h3 : f2 < 7) (h4 : t2 < 7) : bothA α f1 t1 f2 t2 (0 + 1) = (imax (soonA α (nI 0) f1 t1) (soonA α (allA α &&& (nI 0 ^^^ (-1))) f2 t2), soonA α (nI 0) f1 t1 + soonA α (allA α &&& (nI 0 ^^^ (-1))) f2 t2, nI 0) := by
  obtain ⟨s, hs, e⟩ := soon_999 hf (setOK_nI (n := aN α) hf.1.1.2 (k := 0) (Nat.two_pow_pos _)) h1 h2
  obtain ⟨t, ht, e'⟩ := soon_999 hf (setOK_and (allA_ok hf.1) (nI 0 ^^^ (-1))) h3 h4
  rw [bothA_succ]
  unfold stepB bothA
  rw [e, e', imax_nI (by omega) (by omega)]
  have c : nI (max s t) < 1000000000 := nI_lt (b := 1000000000) (by omega) (by omega)
  exact if_pos c
theorem both_k {α : Mem} {f1 t1 f2 t2 : Nat} : ∀ k, k ≤ 128 → ∃ j, j < 128 ∧ (bothA α f1 t1 f2 t2 k).2.2 = nI j := by
  intro k
  induction k with
  | zero => intro _; exact ⟨0, by omega, rfl⟩
  | succ k ih =>
    intro hk
    obtain ⟨j, hj, e⟩ := ih (by omega)
    rw [bothA_succ]
    unfold stepB
    split
    · exact ⟨k, by omega, rfl⟩
    · split
      · split
        · exact ⟨j, hj, e⟩
        · exact ⟨k, by omega, rfl⟩
      · exact ⟨j, hj, e⟩
theorem sg_X8_both_0 {G : GW} {K : Option Value → Mem → Prop} {μ : Mem} {α : Mem} (hf : WF α) {x1 x2 x3 : Int32}  (h : (((inB x1 0 (μ 82 1 - 1)) = false) → K (some (.int (-5))) μ) ∧ (((inB x1 0 (μ 82 1 - 1)) = true) → (((inB x2 0 (μ 82 1 - 1)) = true) → (((inB x3 (0 : Int32) (2 : Int32)) = true) → Ev2 G mX8_both 6 43 [(0, .ref 82), (1, .int x1), (2, .int x2), (3, .int x3), (4, .int (-1)), (5, .int 0), (6, .int 0), (7, .int 0)] [] μ K) ∧ (((inB x3 (0 : Int32) (2 : Int32)) = false) → K (some (.int (-7))) μ)) ∧ (((inB x2 0 (μ 82 1 - 1)) = false) → K (some (.int (-5))) μ))) : Ev2 G mX8_both 6 0 [(0, .ref 82), (1, .int x1), (2, .int x2), (3, .int x3)] [] μ K := by
  refine ev_aload_n dX8_both_0 0 rfl (by decide) ?_
  refine ev_iload_n dX8_both_1 1 rfl ?_
  refine e2_callV (w := .int (bi (inB x1 0 (μ 82 1 - 1)))) (μ1 := μ) (a := 82) (as := [.int x1]) (st := []) ok_X8_isRide vi_X8_isRide ml_8_32 hcl_8 kd_82 dX8_both_2 rfl rfl (Nat.le_of_ble_eq_true rfl) (Nat.le_of_ble_eq_true rfl) (by decide) (ct_X8_isRide (x1) μ) ?_
  refine ev_ifeq_bi (tgt := 16) dX8_both_5 rfl (fun c1 => ?_) (fun c1 => ?_)
  · have h2 := h.1 c1
    refine ev_bipush (v := (-5)) dX8_both_16 rfl ?_
    exact ev_ireturn dX8_both_18 rfl True.intro rfl rfl ⟨rfl, h2⟩
  · have h3 := h.2 c1
    refine ev_aload_n dX8_both_8 0 rfl (by decide) ?_
    refine ev_iload_n dX8_both_9 2 rfl ?_
    refine e2_callV (w := .int (bi (inB x2 0 (μ 82 1 - 1)))) (μ1 := μ) (a := 82) (as := [.int x2]) (st := []) ok_X8_isRide vi_X8_isRide ml_8_32 hcl_8 kd_82 dX8_both_10 rfl rfl (Nat.le_of_ble_eq_true rfl) (Nat.le_of_ble_eq_true rfl) (by decide) (ct_X8_isRide (x2) μ) ?_
    refine ev_ifne_bi (tgt := 19) dX8_both_13 rfl (fun c4 => ?_) (fun c4 => ?_)
    · have h5 := h3.1 c4
      refine ev_iload_n dX8_both_19 3 rfl ?_
      refine ev_iconst (v := 0) dX8_both_20 rfl ?_
      refine ev_iconst (v := 2) dX8_both_21 rfl ?_
      refine e2_callS (w := .int (bi (inB x3 (0 : Int32) (2 : Int32)))) (μ1 := μ) (as := [.int x3, .int 0, .int 2]) (st := []) ok_X8_isIn sv_X8_isIn ml_8_3 dX8_both_22 rfl rfl (Nat.le_of_ble_eq_true rfl) (Nat.le_of_ble_eq_true rfl) (by decide) (ct_X8_isIn (x3) (0) (2) μ) ?_
      refine ev_ifne_bi (tgt := 31) dX8_both_25 rfl (fun c7 => ?_) (fun c7 => ?_)
      · have h8 := h5.1 c7
        refine ev_iconst (v := (-1)) dX8_both_31 rfl ?_
        refine ev_istore (lv' := [(0, .ref 82), (1, .int x1), (2, .int x2), (3, .int x3), (4, .int (-1))]) dX8_both_32 (by decide) [1, 2, 3, 4, 0] rfl ?_
        refine ev_iconst (v := 0) dX8_both_34 rfl ?_
        refine ev_istore (lv' := [(0, .ref 82), (1, .int x1), (2, .int x2), (3, .int x3), (4, .int (-1)), (5, .int 0)]) dX8_both_35 (by decide) [1, 2, 3, 4, 5, 0] rfl ?_
        refine ev_iconst (v := 0) dX8_both_37 rfl ?_
        refine ev_istore (lv' := [(0, .ref 82), (1, .int x1), (2, .int x2), (3, .int x3), (4, .int (-1)), (5, .int 0), (6, .int 0)]) dX8_both_38 (by decide) [1, 2, 3, 4, 5, 6, 0] rfl ?_
        refine ev_iconst (v := 0) dX8_both_40 rfl ?_
        refine ev_istore (lv' := [(0, .ref 82), (1, .int x1), (2, .int x2), (3, .int x3), (4, .int (-1)), (5, .int 0), (6, .int 0), (7, .int 0)]) dX8_both_41 (by decide) [1, 2, 3, 4, 5, 6, 7, 0] rfl ?_
        exact h8
      · have h9 := h5.2 c7
        refine ev_bipush (v := (-7)) dX8_both_28 rfl ?_
        exact ev_ireturn dX8_both_30 rfl True.intro rfl rfl ⟨rfl, h9⟩
    · have h6 := h3.2 c4
      refine ev_bipush (v := (-5)) dX8_both_16 rfl ?_
      exact ev_ireturn dX8_both_18 rfl True.intro rfl rfl ⟨rfl, h6⟩
theorem sg_X8_both_43 {G : GW} {K : Option Value → Mem → Prop} {μ : Mem} {α : Mem} (hf : WF α) {x1 x2 x3 x4 x5 x6 x7 : Int32}  (h : ((((((1 : Int32) <<< (μ 82 4 &&& 31)) - 1)) < x7) → ((¬ x3 = 0) → ((¬ x3 = 1) → K (some (.int x4)) μ) ∧ ((x3 = 1) → K (some (.int x6)) μ)) ∧ ((x3 = 0) → K (some (.int x5)) μ)) ∧ ((¬ (((((1 : Int32) <<< (μ 82 4 &&& 31)) - 1)) < x7)) → (vp_in x1 4) ∧ (vp_in x1 4) ∧ (VM α μ ∧ inB (μ 84 x1.toNatClampNeg) 0 6 = true ∧ inB (μ 85 x1.toNatClampNeg) 0 6 = true ∧ setOK (aN α) x7) ∧ ∀ (z16 : Int32) (μ17 : Mem), (z16 = soonA α x7 (μ 84 x1.toNatClampNeg).toNatClampNeg (μ 85 x1.toNatClampNeg).toNatClampNeg ∧ onlyM 99 105 μ μ17) → (vp_in x2 4) ∧ (vp_in x2 4) ∧ (VM α μ17 ∧ inB (μ17 84 x2.toNatClampNeg) 0 6 = true ∧ inB (μ17 85 x2.toNatClampNeg) 0 6 = true ∧ setOK (aN α) (((((1 : Int32) <<< (μ17 82 4 &&& 31)) - 1)) &&& (x7 ^^^ (-1)))) ∧ ∀ (z26 : Int32) (μ27 : Mem), (z26 = soonA α (((((1 : Int32) <<< (μ17 82 4 &&& 31)) - 1)) &&& (x7 ^^^ (-1))) (μ17 84 x2.toNatClampNeg).toNatClampNeg (μ17 85 x2.toNatClampNeg).toNatClampNeg ∧ onlyM 99 105 μ17 μ27) → ((x4 = (-1)) → Ev2 G mX8_both 6 43 [(0, .ref 82), (1, .int x1), (2, .int x2), (3, .int x3), (4, .int x7), (5, .int (imax z16 z26)), (6, .int (z16 + z26)), (7, .int (x7 + 1))] [] μ27 K) ∧ ((¬ (x4 = (-1))) → (((imax z16 z26) < x5) → Ev2 G mX8_both 6 43 [(0, .ref 82), (1, .int x1), (2, .int x2), (3, .int x3), (4, .int x7), (5, .int (imax z16 z26)), (6, .int (z16 + z26)), (7, .int (x7 + 1))] [] μ27 K) ∧ ((¬ ((imax z16 z26) < x5)) → ((¬ (imax z16 z26) = x5) → Ev2 G mX8_both 6 43 [(0, .ref 82), (1, .int x1), (2, .int x2), (3, .int x3), (4, .int x4), (5, .int x5), (6, .int x6), (7, .int (x7 + 1))] [] μ27 K) ∧ (((imax z16 z26) = x5) → ((x6 ≤ (z16 + z26)) → Ev2 G mX8_both 6 43 [(0, .ref 82), (1, .int x1), (2, .int x2), (3, .int x3), (4, .int x4), (5, .int x5), (6, .int x6), (7, .int (x7 + 1))] [] μ27 K) ∧ ((¬ (x6 ≤ (z16 + z26))) → Ev2 G mX8_both 6 43 [(0, .ref 82), (1, .int x1), (2, .int x2), (3, .int x3), (4, .int x7), (5, .int (imax z16 z26)), (6, .int (z16 + z26)), (7, .int (x7 + 1))] [] μ27 K)))))) : Ev2 G mX8_both 6 43 [(0, .ref 82), (1, .int x1), (2, .int x2), (3, .int x3), (4, .int x4), (5, .int x5), (6, .int x6), (7, .int x7)] [] μ K := by
  refine ev_iload dX8_both_43 7 rfl ?_
  refine ev_aload_n dX8_both_45 0 rfl (by decide) ?_
  refine e2_callV (w := .int ((((1 : Int32) <<< (μ 82 4 &&& 31)) - 1))) (μ1 := μ) (a := 82) (as := []) (st := [.int x7]) ok_X8_everyOne vi_X8_everyOne ml_8_262 hcl_8 kd_82 dX8_both_46 rfl rfl (Nat.le_of_ble_eq_true rfl) (Nat.le_of_ble_eq_true rfl) (by decide) (ct_X8_everyOne μ) ?_
  refine ev_icmp_gt (tgt := 159) dX8_both_49 rfl (fun c1 => ?_) (fun c1 => ?_)
  · have h2 := h.1 c1
    refine ev_iload_n dX8_both_159 3 rfl ?_
    refine ev_if_ne (tgt := 168) dX8_both_160 rfl (fun c4 => ?_) (fun c4 => ?_)
    · have h5 := h2.1 c4
      refine ev_iload_n dX8_both_168 3 rfl ?_
      refine ev_iconst (v := 1) dX8_both_169 rfl ?_
      refine ev_icmp_ne (tgt := 178) dX8_both_170 rfl (fun c7 => ?_) (fun c7 => ?_)
      · have h8 := h5.1 c7
        refine ev_iload dX8_both_178 4 rfl ?_
        exact ev_ireturn dX8_both_180 rfl True.intro rfl rfl ⟨rfl, h8⟩
      · have h9 := h5.2 c7
        refine ev_iload dX8_both_173 6 rfl ?_
        refine ev_goto (tgt := 180) dX8_both_175 rfl ?_
        exact ev_ireturn dX8_both_180 rfl True.intro rfl rfl ⟨rfl, h9⟩
    · have h6 := h2.2 c4
      refine ev_iload dX8_both_163 5 rfl ?_
      refine ev_goto (tgt := 180) dX8_both_165 rfl ?_
      exact ev_ireturn dX8_both_180 rfl True.intro rfl rfl ⟨rfl, h6⟩
  · have h3 := h.2 c1
    refine ev_aload_n dX8_both_52 0 rfl (by decide) ?_
    refine ev_aload_n dX8_both_53 0 rfl (by decide) ?_
    refine ev_getR' fl_8_26 rfl kd_82 rf_82_2 dX8_both_54 ?_
    refine ev_iload_n dX8_both_57 1 rfl ?_
    have p10 := h3.1
    have h11 := h3.2
    refine ev_iaload' (v := (μ 84 x1.toNatClampNeg)) kd_84 ln_84 p10 rfl dX8_both_58 ?_
    refine ev_aload_n dX8_both_59 0 rfl (by decide) ?_
    refine ev_getR' fl_8_29 rfl kd_82 rf_82_3 dX8_both_60 ?_
    refine ev_iload_n dX8_both_63 1 rfl ?_
    have p12 := h11.1
    have h13 := h11.2
    refine ev_iaload' (v := (μ 85 x1.toNatClampNeg)) kd_85 ln_85 p12 rfl dX8_both_64 ?_
    refine ev_iload dX8_both_65 7 rfl ?_
    have p14 := h13.1
    have h15 := h13.2
    refine e2_callVr (Rl := fun z16 μ17 => z16 = soonA α x7 (μ 84 x1.toNatClampNeg).toNatClampNeg (μ 85 x1.toNatClampNeg).toNatClampNeg ∧ onlyM 99 105 μ μ17) (a := 82) (as := [.int (μ 84 x1.toNatClampNeg), .int (μ 85 x1.toNatClampNeg), .int x7]) (st := []) ok_X8_soonTo vi_X8_soonTo ml_8_272 hcl_8 kd_82 dX8_both_67 rfl rfl (Nat.le_of_ble_eq_true rfl) (Nat.le_of_ble_eq_true rfl) (by decide) (ct_X8_soonTo hf ((μ 84 x1.toNatClampNeg)) ((μ 85 x1.toNatClampNeg)) (x7) μ p14) (fun z16 μ17 r18 => ?_)
    have h19 := h15 z16 μ17 r18
    refine ev_istore (lv' := [(0, .ref 82), (1, .int x1), (2, .int x2), (3, .int x3), (4, .int x4), (5, .int x5), (6, .int x6), (7, .int x7), (8, .int z16)]) dX8_both_70 (by decide) [1, 2, 3, 4, 5, 6, 7, 8, 0] rfl ?_
    refine ev_aload_n dX8_both_72 0 rfl (by decide) ?_
    refine ev_aload_n dX8_both_73 0 rfl (by decide) ?_
    refine ev_getR' fl_8_26 rfl kd_82 rf_82_2 dX8_both_74 ?_
    refine ev_iload_n dX8_both_77 2 rfl ?_
    have p20 := h19.1
    have h21 := h19.2
    refine ev_iaload' (v := (μ17 84 x2.toNatClampNeg)) kd_84 ln_84 p20 rfl dX8_both_78 ?_
    refine ev_aload_n dX8_both_79 0 rfl (by decide) ?_
    refine ev_getR' fl_8_29 rfl kd_82 rf_82_3 dX8_both_80 ?_
    refine ev_iload_n dX8_both_83 2 rfl ?_
    have p22 := h21.1
    have h23 := h21.2
    refine ev_iaload' (v := (μ17 85 x2.toNatClampNeg)) kd_85 ln_85 p22 rfl dX8_both_84 ?_
    refine ev_aload_n dX8_both_85 0 rfl (by decide) ?_
    refine e2_callV (w := .int ((((1 : Int32) <<< (μ17 82 4 &&& 31)) - 1))) (μ1 := μ17) (a := 82) (as := []) (st := [.int (μ17 85 x2.toNatClampNeg), .int (μ17 84 x2.toNatClampNeg), .ref 82]) ok_X8_everyOne vi_X8_everyOne ml_8_262 hcl_8 kd_82 dX8_both_86 rfl rfl (Nat.le_of_ble_eq_true rfl) (Nat.le_of_ble_eq_true rfl) (by decide) (ct_X8_everyOne μ17) ?_
    refine ev_iload dX8_both_89 7 rfl ?_
    refine ev_iconst (v := (-1)) dX8_both_91 rfl ?_
    refine ev_ixor dX8_both_92 ?_
    refine ev_iand dX8_both_93 ?_
    have p24 := h23.1
    have h25 := h23.2
    refine e2_callVr (Rl := fun z26 μ27 => z26 = soonA α (((((1 : Int32) <<< (μ17 82 4 &&& 31)) - 1)) &&& (x7 ^^^ (-1))) (μ17 84 x2.toNatClampNeg).toNatClampNeg (μ17 85 x2.toNatClampNeg).toNatClampNeg ∧ onlyM 99 105 μ17 μ27) (a := 82) (as := [.int (μ17 84 x2.toNatClampNeg), .int (μ17 85 x2.toNatClampNeg), .int (((((1 : Int32) <<< (μ17 82 4 &&& 31)) - 1)) &&& (x7 ^^^ (-1)))]) (st := []) ok_X8_soonTo vi_X8_soonTo ml_8_272 hcl_8 kd_82 dX8_both_94 rfl rfl (Nat.le_of_ble_eq_true rfl) (Nat.le_of_ble_eq_true rfl) (by decide) (ct_X8_soonTo hf ((μ17 84 x2.toNatClampNeg)) ((μ17 85 x2.toNatClampNeg)) ((((((1 : Int32) <<< (μ17 82 4 &&& 31)) - 1)) &&& (x7 ^^^ (-1)))) μ17 p24) (fun z26 μ27 r28 => ?_)
    have h29 := h25 z26 μ27 r28
    refine ev_istore (lv' := [(0, .ref 82), (1, .int x1), (2, .int x2), (3, .int x3), (4, .int x4), (5, .int x5), (6, .int x6), (7, .int x7), (8, .int z16), (9, .int z26)]) dX8_both_97 (by decide) [1, 2, 3, 4, 5, 6, 7, 8, 9, 0] rfl ?_
    refine ev_iload dX8_both_99 8 rfl ?_
    refine ev_iload dX8_both_101 9 rfl ?_
    refine ev_max ml_8_64 dX8_both_103 (Nat.le_of_ble_eq_true rfl) (by decide) ⟨Nat.le_refl _, Nat.le_refl _⟩ ?_
    refine ev_istore (lv' := [(0, .ref 82), (1, .int x1), (2, .int x2), (3, .int x3), (4, .int x4), (5, .int x5), (6, .int x6), (7, .int x7), (8, .int z16), (9, .int z26), (10, .int (imax z16 z26))]) dX8_both_106 (by decide) [1, 2, 3, 4, 5, 6, 7, 8, 9, 10, 0] rfl ?_
    refine ev_iload dX8_both_108 4 rfl ?_
    refine ev_iconst (v := (-1)) dX8_both_110 rfl ?_
    refine ev_icmp_eq (tgt := 138) dX8_both_111 rfl (fun c30 => ?_) (fun c30 => ?_)
    · have h31 := h29.1 c30
      refine ev_iload dX8_both_138 7 rfl ?_
      refine ev_istore (lv' := [(0, .ref 82), (1, .int x1), (2, .int x2), (3, .int x3), (4, .int x7), (5, .int x5), (6, .int x6), (7, .int x7), (8, .int z16), (9, .int z26), (10, .int (imax z16 z26))]) dX8_both_140 (by decide) [1, 2, 3, 4, 0, 5, 6, 7, 8, 9, 10] rfl ?_
      refine ev_iload dX8_both_142 10 rfl ?_
      refine ev_istore (lv' := [(0, .ref 82), (1, .int x1), (2, .int x2), (3, .int x3), (4, .int x7), (5, .int (imax z16 z26)), (6, .int x6), (7, .int x7), (8, .int z16), (9, .int z26), (10, .int (imax z16 z26))]) dX8_both_144 (by decide) [1, 2, 3, 4, 5, 0, 6, 7, 8, 9, 10] rfl ?_
      refine ev_iload dX8_both_146 8 rfl ?_
      refine ev_iload dX8_both_148 9 rfl ?_
      refine ev_iadd dX8_both_150 ?_
      refine ev_istore (lv' := [(0, .ref 82), (1, .int x1), (2, .int x2), (3, .int x3), (4, .int x7), (5, .int (imax z16 z26)), (6, .int (z16 + z26)), (7, .int x7), (8, .int z16), (9, .int z26), (10, .int (imax z16 z26))]) dX8_both_151 (by decide) [1, 2, 3, 4, 5, 6, 0, 7, 8, 9, 10] rfl ?_
      refine ev_iinc (v := (x7 + 1)) (lv' := [(0, .ref 82), (1, .int x1), (2, .int x2), (3, .int x3), (4, .int x7), (5, .int (imax z16 z26)), (6, .int (z16 + z26)), (7, .int (x7 + 1)), (8, .int z16), (9, .int z26), (10, .int (imax z16 z26))]) dX8_both_153 7 rfl rfl (by decide) [1, 2, 3, 4, 5, 6, 7, 0, 8, 9, 10] rfl ?_
      refine ev_goto (tgt := 43) dX8_both_156 rfl ?_
      refine EvW.less [0, 1, 2, 3, 4, 5, 6, 7] (lv' := [(0, .ref 82), (1, .int x1), (2, .int x2), (3, .int x3), (4, .int x7), (5, .int (imax z16 z26)), (6, .int (z16 + z26)), (7, .int (x7 + 1))]) rfl ?_
      exact h31
    · have h32 := h29.2 c30
      refine ev_iload dX8_both_114 10 rfl ?_
      refine ev_iload dX8_both_116 5 rfl ?_
      refine ev_icmp_lt (tgt := 138) dX8_both_118 rfl (fun c33 => ?_) (fun c33 => ?_)
      · have h34 := h32.1 c33
        refine ev_iload dX8_both_138 7 rfl ?_
        refine ev_istore (lv' := [(0, .ref 82), (1, .int x1), (2, .int x2), (3, .int x3), (4, .int x7), (5, .int x5), (6, .int x6), (7, .int x7), (8, .int z16), (9, .int z26), (10, .int (imax z16 z26))]) dX8_both_140 (by decide) [1, 2, 3, 4, 0, 5, 6, 7, 8, 9, 10] rfl ?_
        refine ev_iload dX8_both_142 10 rfl ?_
        refine ev_istore (lv' := [(0, .ref 82), (1, .int x1), (2, .int x2), (3, .int x3), (4, .int x7), (5, .int (imax z16 z26)), (6, .int x6), (7, .int x7), (8, .int z16), (9, .int z26), (10, .int (imax z16 z26))]) dX8_both_144 (by decide) [1, 2, 3, 4, 5, 0, 6, 7, 8, 9, 10] rfl ?_
        refine ev_iload dX8_both_146 8 rfl ?_
        refine ev_iload dX8_both_148 9 rfl ?_
        refine ev_iadd dX8_both_150 ?_
        refine ev_istore (lv' := [(0, .ref 82), (1, .int x1), (2, .int x2), (3, .int x3), (4, .int x7), (5, .int (imax z16 z26)), (6, .int (z16 + z26)), (7, .int x7), (8, .int z16), (9, .int z26), (10, .int (imax z16 z26))]) dX8_both_151 (by decide) [1, 2, 3, 4, 5, 6, 0, 7, 8, 9, 10] rfl ?_
        refine ev_iinc (v := (x7 + 1)) (lv' := [(0, .ref 82), (1, .int x1), (2, .int x2), (3, .int x3), (4, .int x7), (5, .int (imax z16 z26)), (6, .int (z16 + z26)), (7, .int (x7 + 1)), (8, .int z16), (9, .int z26), (10, .int (imax z16 z26))]) dX8_both_153 7 rfl rfl (by decide) [1, 2, 3, 4, 5, 6, 7, 0, 8, 9, 10] rfl ?_
        refine ev_goto (tgt := 43) dX8_both_156 rfl ?_
        refine EvW.less [0, 1, 2, 3, 4, 5, 6, 7] (lv' := [(0, .ref 82), (1, .int x1), (2, .int x2), (3, .int x3), (4, .int x7), (5, .int (imax z16 z26)), (6, .int (z16 + z26)), (7, .int (x7 + 1))]) rfl ?_
        exact h34
      · have h35 := h32.2 c33
        refine ev_iload dX8_both_121 10 rfl ?_
        refine ev_iload dX8_both_123 5 rfl ?_
        refine ev_icmp_ne (tgt := 153) dX8_both_125 rfl (fun c36 => ?_) (fun c36 => ?_)
        · have h37 := h35.1 c36
          refine ev_iinc (v := (x7 + 1)) (lv' := [(0, .ref 82), (1, .int x1), (2, .int x2), (3, .int x3), (4, .int x4), (5, .int x5), (6, .int x6), (7, .int (x7 + 1)), (8, .int z16), (9, .int z26), (10, .int (imax z16 z26))]) dX8_both_153 7 rfl rfl (by decide) [1, 2, 3, 4, 5, 6, 7, 0, 8, 9, 10] rfl ?_
          refine ev_goto (tgt := 43) dX8_both_156 rfl ?_
          refine EvW.less [0, 1, 2, 3, 4, 5, 6, 7] (lv' := [(0, .ref 82), (1, .int x1), (2, .int x2), (3, .int x3), (4, .int x4), (5, .int x5), (6, .int x6), (7, .int (x7 + 1))]) rfl ?_
          exact h37
        · have h38 := h35.2 c36
          refine ev_iload dX8_both_128 8 rfl ?_
          refine ev_iload dX8_both_130 9 rfl ?_
          refine ev_iadd dX8_both_132 ?_
          refine ev_iload dX8_both_133 6 rfl ?_
          refine ev_icmp_ge (tgt := 153) dX8_both_135 rfl (fun c39 => ?_) (fun c39 => ?_)
          · have h40 := h38.1 c39
            refine ev_iinc (v := (x7 + 1)) (lv' := [(0, .ref 82), (1, .int x1), (2, .int x2), (3, .int x3), (4, .int x4), (5, .int x5), (6, .int x6), (7, .int (x7 + 1)), (8, .int z16), (9, .int z26), (10, .int (imax z16 z26))]) dX8_both_153 7 rfl rfl (by decide) [1, 2, 3, 4, 5, 6, 7, 0, 8, 9, 10] rfl ?_
            refine ev_goto (tgt := 43) dX8_both_156 rfl ?_
            refine EvW.less [0, 1, 2, 3, 4, 5, 6, 7] (lv' := [(0, .ref 82), (1, .int x1), (2, .int x2), (3, .int x3), (4, .int x4), (5, .int x5), (6, .int x6), (7, .int (x7 + 1))]) rfl ?_
            exact h40
          · have h41 := h38.2 c39
            refine ev_iload dX8_both_138 7 rfl ?_
            refine ev_istore (lv' := [(0, .ref 82), (1, .int x1), (2, .int x2), (3, .int x3), (4, .int x7), (5, .int x5), (6, .int x6), (7, .int x7), (8, .int z16), (9, .int z26), (10, .int (imax z16 z26))]) dX8_both_140 (by decide) [1, 2, 3, 4, 0, 5, 6, 7, 8, 9, 10] rfl ?_
            refine ev_iload dX8_both_142 10 rfl ?_
            refine ev_istore (lv' := [(0, .ref 82), (1, .int x1), (2, .int x2), (3, .int x3), (4, .int x7), (5, .int (imax z16 z26)), (6, .int x6), (7, .int x7), (8, .int z16), (9, .int z26), (10, .int (imax z16 z26))]) dX8_both_144 (by decide) [1, 2, 3, 4, 5, 0, 6, 7, 8, 9, 10] rfl ?_
            refine ev_iload dX8_both_146 8 rfl ?_
            refine ev_iload dX8_both_148 9 rfl ?_
            refine ev_iadd dX8_both_150 ?_
            refine ev_istore (lv' := [(0, .ref 82), (1, .int x1), (2, .int x2), (3, .int x3), (4, .int x7), (5, .int (imax z16 z26)), (6, .int (z16 + z26)), (7, .int x7), (8, .int z16), (9, .int z26), (10, .int (imax z16 z26))]) dX8_both_151 (by decide) [1, 2, 3, 4, 5, 6, 0, 7, 8, 9, 10] rfl ?_
            refine ev_iinc (v := (x7 + 1)) (lv' := [(0, .ref 82), (1, .int x1), (2, .int x2), (3, .int x3), (4, .int x7), (5, .int (imax z16 z26)), (6, .int (z16 + z26)), (7, .int (x7 + 1)), (8, .int z16), (9, .int z26), (10, .int (imax z16 z26))]) dX8_both_153 7 rfl rfl (by decide) [1, 2, 3, 4, 5, 6, 7, 0, 8, 9, 10] rfl ?_
            refine ev_goto (tgt := 43) dX8_both_156 rfl ?_
            refine EvW.less [0, 1, 2, 3, 4, 5, 6, 7] (lv' := [(0, .ref 82), (1, .int x1), (2, .int x2), (3, .int x3), (4, .int x7), (5, .int (imax z16 z26)), (6, .int (z16 + z26)), (7, .int (x7 + 1))]) rfl ?_
            exact h41
theorem lp_X8_both {G : GW} {α μ0 : Mem} (hf : WF α) {x1 x2 x3 : Int32} (c1 : inB x1 0 (α 0 1 - 1) = true) (c2 : inB x2 0 (α 0 1 - 1) = true) : ∀ j k (μ : Mem) (y4 y5 y6 : Int32), k + j = 2 ^ aN α → (k = 0 ∧ y4 = -1 ∨ 1 ≤ k ∧ y5 = (bothA α (rFA α x1) (rTA α x1) (rFA α x2) (rTA α x2) k).1 ∧ y6 = (bothA α (rFA α x1) (rTA α x1) (rFA α x2) (rTA α x2) k).2.1 ∧ y4 = (bothA α (rFA α x1) (rTA α x1) (rFA α x2) (rTA α x2) k).2.2) → VM α μ → keepX μ0 μ → Ev2 G mX8_both 6 43 [(0, .ref 82), (1, .int x1), (2, .int x2), (3, .int x3), (4, .int y4), (5, .int y5), (6, .int y6), (7, .int (nI k))] [] μ (fun v μ' => v = some (.int (sel3 x3 (bothA α (rFA α x1) (rTA α x1) (rFA α x2) (rTA α x2) (2 ^ aN α)).1 (bothA α (rFA α x1) (rTA α x1) (rFA α x2) (rTA α x2) (2 ^ aN α)).2.1 (bothA α (rFA α x1) (rTA α x1) (rFA α x2) (rTA α x2) (2 ^ aN α)).2.2)) ∧ VM α μ' ∧ keepX μ0 μ') := by
  have hp2 := pow_le hf.1
  have hp1 := Nat.two_pow_pos (aN α)
  intro j
  induction j with
  | zero =>
    intro k μ y4 y5 y6 hk hy h hm
    obtain rfl : k = 2 ^ aN α := by omega
    rcases hy with ⟨e, -⟩ | ⟨-, e5, e6, e4⟩
    · omega
    · refine sg_X8_both_43 hf ⟨fun _ => ⟨fun c => ⟨fun d => ⟨?_, h, hm⟩, fun d => ⟨?_, h, hm⟩⟩, fun c => ⟨?_, h, hm⟩⟩, fun c => ?_⟩
      · rw [sel3_2 c d, e4]
      · rw [sel3_1 c d, e6]
      · rw [sel3_0 c, e5]
      · rw [h.all] at c
        exact absurd (sets_out hf.1) c
  | succ j ih =>
    intro k μ y4 y5 y6 hk hy h hm
    refine sg_X8_both_43 hf ⟨fun c => ?_, fun _ => ?_⟩
    · rw [h.all] at c
      exact absurd c (sets_in hf.1 (by omega))
    · obtain ⟨v1, w1, w2, e1, e2, l1, l2⟩ := h.r hf c1
      have hs := setOK_nI (n := aN α) hf.1.1.2 (k := k) (by omega)
      refine ⟨v1, v1, ⟨h, w1, w2, hs⟩, fun x ν hx => ?_⟩
      rw [e1, e2] at hx
      obtain ⟨ex, ho1⟩ := hx
      obtain ⟨h1, k1⟩ := h.o hf ho1
      obtain ⟨v2, w3, w4, e3, e4, l3, l4⟩ := h1.r hf c2
      have hs2 := setOK_and (allA_ok hf.1) (nI k ^^^ (-1))
      rw [h1.all]
      refine ⟨v2, v2, ⟨h1, w3, w4, hs2⟩, fun y ξ hy2 => ?_⟩
      rw [e3, e4] at hy2
      obtain ⟨ey, ho2⟩ := hy2
      obtain ⟨h2, k2⟩ := h1.o hf ho2
      have hh := fun (z4 z5 z6 : Int32) (hz : z5 = (bothA α (rFA α x1) (rTA α x1) (rFA α x2) (rTA α x2) (k + 1)).1 ∧ z6 = (bothA α (rFA α x1) (rTA α x1) (rFA α x2) (rTA α x2) (k + 1)).2.1 ∧ z4 = (bothA α (rFA α x1) (rTA α x1) (rFA α x2) (rTA α x2) (k + 1)).2.2) => ih (k + 1) ξ z4 z5 z6 (by omega) (Or.inr ⟨by omega, hz⟩) h2 ((hm.tr k1).tr k2)
      rw [← nI_1] at hh
      rcases hy with ⟨rfl, e⟩ | ⟨hk1, e5, e6, e4'⟩
      · have hb := both_1 hf l1 l2 l3 l4
        rw [← ex, ← ey] at hb
        rw [hb] at hh
        exact ⟨fun _ => hh _ _ _ ⟨rfl, rfl, rfl⟩, fun c => absurd e c⟩
      · obtain ⟨q, hq, eq⟩ := both_k (α := α) (f1 := rFA α x1) (t1 := rTA α x1) (f2 := rFA α x2) (t2 := rTA α x2) k (by omega)
        rw [bothA_succ, ← ex, ← ey] at hh
        unfold stepB at hh
        rw [← e5, ← e6] at hh
        refine ⟨fun c => ?_, fun _ => ⟨fun c => ?_, fun c => ⟨fun d => ?_, fun d => ⟨fun e => ?_, fun e => ?_⟩⟩⟩⟩
        · rw [e4', eq] at c
          exact absurd c (nI_m (by omega))
        · rw [if_pos c] at hh
          exact hh _ _ _ ⟨rfl, rfl, rfl⟩
        · rw [if_neg c, if_neg d] at hh
          exact hh _ _ _ ⟨e5, e6, e4'⟩
        · rw [if_neg c, if_pos d, if_pos e] at hh
          exact hh _ _ _ ⟨e5, e6, e4'⟩
        · rw [if_neg c, if_pos d, if_neg e] at hh
          exact hh _ _ _ ⟨rfl, rfl, rfl⟩
theorem pb_X8_both {G : GW} {α μ : Mem} (hf : WF α) (h : VM α μ) (x1 x2 x3 : Int32) : pubM G mX8_both 6 [(0, .ref 82), (1, .int x1), (2, .int x2), (3, .int x3)] α μ (.int (sp_both α x1 x2 x3)) α := by
  refine sg_X8_both_0 hf ?_
  rw [h.1.2.1]
  unfold sp_both
  refine ⟨fun c => ?_, fun c => ⟨fun d => ⟨fun e => ?_, fun e => ?_⟩, fun d => ?_⟩⟩
  · rw [if_neg (by rw [c]; decide)]
    exact ⟨rfl, h, keepX.rf μ⟩
  · rw [if_pos c, if_pos d, if_pos e]
    exact lp_X8_both hf c d (2 ^ aN α) 0 μ (-1) 0 0 (by omega) (Or.inl ⟨rfl, rfl⟩) h (keepX.rf μ)
  · rw [if_pos c, if_pos d, if_neg (by rw [e]; decide)]
    exact ⟨rfl, h, keepX.rf μ⟩
  · rw [if_pos c, if_neg (by rw [d]; decide)]
    exact ⟨rfl, h, keepX.rf μ⟩
