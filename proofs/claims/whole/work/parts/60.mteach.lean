/-! ===== the reference's public methods: teach, move, cut ===== -/
theorem imin_le {x y : Int32} (h : x ≤ y) : imin x y = x := if_neg (Int32.not_lt.mpr h)
theorem imin_nle {x y : Int32} (h : ¬ x ≤ y) : imin x y = y := if_pos (Int32.not_le.mp h)
theorem bits_more {n : Nat} (hn : n < 7) : nI (2 ^ (n + 1) - 1) = nI (2 ^ n - 1) ||| ((1 : Int32) <<< (nI n &&& 31)) := by
  rcases (show n = 0 ∨ n = 1 ∨ n = 2 ∨ n = 3 ∨ n = 4 ∨ n = 5 ∨ n = 6 by omega) with rfl | rfl | rfl | rfl | rfl | rfl | rfl <;> decide
theorem all_new {α : Mem} (hf : WF α) (hn : aN α < 7) {k f t td m : Int32} (hf2 : WF (newA α k f t td m)) : allA (newA α k f t td m) = allA α ||| (1 <<< (α 0 0 &&& 31)) := by
  rw [allA_eq hf2.1, allA_eq hf.1, (newA_n hf.1).2, hf.1.1.1, bits_more hn]
theorem vm_forget {α μ : Mem} (hf : WF α) {k f t td m : Int32} (h : VM (newA α k f t td m) μ) : VM α (mset μ 82 4 (nI (aN α))) := by
  obtain ⟨vc, vw, vr, vh, vt, vx, vi, vs, vk⟩ := h
  have e : ∀ r, r ≠ 0 ∧ (r < 4 ∨ 9 < r) → α r = newA α k f t td m r := fun r h => (newA_row h.1 h.2).symm
  have e0 : ∀ j, j ≠ 0 → α 0 j = newA α k f t td m 0 j := fun j h => (newA_0 h).symm
  have n : ∀ r, r ≠ 82 → mset μ 82 4 (nI (aN α)) r = μ r := fun r h => mset_ne h
  have n0 : ∀ j, j ≠ 4 → mset μ 82 4 (nI (aN α)) 82 j = μ 82 j := fun j h => mset_other (by omega)
  refine ⟨⟨?_, ?_, ?_, ?_, ?_⟩, ?_, ?_, ?_, ?_, ?_, ?_, ?_, ?_⟩
  · rw [mset_same]; exact hf.1.1.1.symm
  · rw [n0 1 (by omega), e0 1 (by omega)]; exact vc.2.1
  · rw [n0 13 (by omega), e0 2 (by omega)]; exact vc.2.2.1
  · rw [n0 14 (by omega), e0 3 (by omega)]; exact vc.2.2.2.1
  · rw [n0 12 (by omega), e0 4 (by omega)]; exact vc.2.2.2.2
  · exact vw.eq (e 1 (by omega)) (n 83 (by omega))
  · exact vr.eq (e0 1 (by omega)) (e 2 (by omega)) (e 3 (by omega)) (n 84 (by omega)) (n 85 (by omega))
  · intro i hi j hj
    rw [n (86 + j) (by omega), ← newA_oth (k := k) (f := f) (t := t) (td := td) (m := m) (by omega) (show i ≠ aN α by omega)]
    exact vh i (by rw [(newA_n hf.1).2]; omega) j hj
  · exact vt.eq (e0 4 (by omega)) (e 10 (by omega)) (n 92 (by omega))
  · exact vx.eq (e0 2 (by omega)) (e 17 (by omega)) (e 18 (by omega)) (n 93 (by omega)) (n 94 (by omega))
  · exact vi.eq (e 11 (by omega)) (e 12 (by omega)) (e 13 (by omega)) (fun k _ => n0 k (by omega)) (n 107 (by omega)) (n 108 (by omega))
  · exact vs.eq (e 14 (by omega)) (e 15 (by omega)) (e 16 (by omega)) (n 109 (by omega)) (n 110 (by omega)) (n 111 (by omega))
  · exact vk.eq (n 95 (by omega)) (n 96 (by omega))
theorem sg_X8_teach_0 {G : GW} {K : Option Value → Mem → Prop} {μ : Mem} {α : Mem} (hf : WF α) {x1 : Int32}  (h : (((inB x1 (0 : Int32) (1 : Int32)) = true) → ((¬ (μ 82 4) = 7) → (VM α μ) ∧ ∀ (z9 : Int32) (μ10 : Mem), (z9 = ridA α (allA α) ∧ onlyM 99 105 μ μ10) → Ev2 G mX8_teach 8 40 [(0, .ref 82), (1, .int x1), (2, .int (-1)), (3, .int z9), (4, .int (μ10 82 4)), (5, .int 0)] [] μ10 K) ∧ (((μ 82 4) = 7) → K (some (.int (-3))) μ)) ∧ (((inB x1 (0 : Int32) (1 : Int32)) = false) → K (some (.int (-2))) μ)) : Ev2 G mX8_teach 8 0 [(0, .ref 82), (1, .int x1)] [] μ K := by
  refine ev_iload_n dX8_teach_0 1 rfl ?_
  refine ev_iconst (v := 0) dX8_teach_1 rfl ?_
  refine ev_iconst (v := 1) dX8_teach_2 rfl ?_
  refine e2_callS (w := .int (bi (inB x1 (0 : Int32) (1 : Int32)))) (μ1 := μ) (as := [.int x1, .int 0, .int 1]) (st := []) ok_X8_isIn sv_X8_isIn ml_8_3 dX8_teach_3 rfl rfl (Nat.le_of_ble_eq_true rfl) (Nat.le_of_ble_eq_true rfl) (by decide) (ct_X8_isIn (x1) (0) (1) μ) ?_
  refine ev_ifne_bi (tgt := 12) dX8_teach_6 rfl (fun c1 => ?_) (fun c1 => ?_)
  · have h2 := h.1 c1
    refine ev_aload_n dX8_teach_12 0 rfl (by decide) ?_
    refine ev_getI' (v := (μ 82 4)) fl_8_7 rfl kd_82 rfl dX8_teach_13 ?_
    refine ev_bipush (v := 7) dX8_teach_16 rfl ?_
    refine ev_icmp_ne (tgt := 24) dX8_teach_18 rfl (fun c4 => ?_) (fun c4 => ?_)
    · have h5 := h2.1 c4
      refine ev_iconst (v := (-1)) dX8_teach_24 rfl ?_
      refine ev_istore_n (lv' := [(0, .ref 82), (1, .int x1), (2, .int (-1))]) dX8_teach_25 (by decide) [1, 2, 0] rfl ?_
      refine ev_aload_n dX8_teach_26 0 rfl (by decide) ?_
      have p7 := h5.1
      have h8 := h5.2
      refine e2_callVr (Rl := fun z9 μ10 => z9 = ridA α (allA α) ∧ onlyM 99 105 μ μ10) (a := 82) (as := []) (st := []) ok_X8_all vi_X8_all ml_8_278 hcl_8 kd_82 dX8_teach_27 rfl rfl (Nat.le_of_ble_eq_true rfl) (Nat.le_of_ble_eq_true rfl) (by decide) (ct_X8_all hf μ p7) (fun z9 μ10 r11 => ?_)
      have h12 := h8 z9 μ10 r11
      refine ev_istore_n (lv' := [(0, .ref 82), (1, .int x1), (2, .int (-1)), (3, .int z9)]) dX8_teach_30 (by decide) [1, 2, 3, 0] rfl ?_
      refine ev_aload_n dX8_teach_31 0 rfl (by decide) ?_
      refine ev_getI' (v := (μ10 82 4)) fl_8_7 rfl kd_82 rfl dX8_teach_32 ?_
      refine ev_istore (lv' := [(0, .ref 82), (1, .int x1), (2, .int (-1)), (3, .int z9), (4, .int (μ10 82 4))]) dX8_teach_35 (by decide) [1, 2, 3, 4, 0] rfl ?_
      refine ev_iconst (v := 0) dX8_teach_37 rfl ?_
      refine ev_istore (lv' := [(0, .ref 82), (1, .int x1), (2, .int (-1)), (3, .int z9), (4, .int (μ10 82 4)), (5, .int 0)]) dX8_teach_38 (by decide) [1, 2, 3, 4, 5, 0] rfl ?_
      exact h12
    · have h6 := h2.2 c4
      refine ev_bipush (v := (-3)) dX8_teach_21 rfl ?_
      exact ev_ireturn dX8_teach_23 rfl True.intro rfl rfl ⟨rfl, h6⟩
  · have h3 := h.2 c1
    refine ev_bipush (v := (-2)) dX8_teach_9 rfl ?_
    exact ev_ireturn dX8_teach_11 rfl True.intro rfl rfl ⟨rfl, h3⟩
theorem sg_X8_teach_40 {G : GW} {K : Option Value → Mem → Prop} {μ : Mem} {α : Mem} (hf : WF α) {x1 x2 x3 x4 x5 : Int32}  (h : ((7 ≤ x5) → ((¬ x1 = 0) → K (some (.int x3)) μ) ∧ ((x1 = 0) → K (some (.int x2)) μ)) ∧ ((¬ (7 ≤ x5)) → Ev2 G mX8_teach 8 50 [(0, .ref 82), (1, .int x1), (2, .int x2), (3, .int x3), (4, .int x4), (5, .int x5), (6, .int 0)] [] μ K)) : Ev2 G mX8_teach 8 40 [(0, .ref 82), (1, .int x1), (2, .int x2), (3, .int x3), (4, .int x4), (5, .int x5)] [] μ K := by
  refine ev_iload dX8_teach_40 5 rfl ?_
  refine ev_bipush (v := 7) dX8_teach_42 rfl ?_
  refine ev_icmp_ge (tgt := 153) dX8_teach_44 rfl (fun c1 => ?_) (fun c1 => ?_)
  · have h2 := h.1 c1
    refine ev_iload_n dX8_teach_153 1 rfl ?_
    refine ev_if_ne (tgt := 161) dX8_teach_154 rfl (fun c4 => ?_) (fun c4 => ?_)
    · have h5 := h2.1 c4
      refine ev_iload_n dX8_teach_161 3 rfl ?_
      exact ev_ireturn dX8_teach_162 rfl True.intro rfl rfl ⟨rfl, h5⟩
    · have h6 := h2.2 c4
      refine ev_iload_n dX8_teach_157 2 rfl ?_
      refine ev_goto (tgt := 162) dX8_teach_158 rfl ?_
      exact ev_ireturn dX8_teach_162 rfl True.intro rfl rfl ⟨rfl, h6⟩
  · have h3 := h.2 c1
    refine ev_iconst (v := 0) dX8_teach_47 rfl ?_
    refine ev_istore (lv' := [(0, .ref 82), (1, .int x1), (2, .int x2), (3, .int x3), (4, .int x4), (5, .int x5), (6, .int 0)]) dX8_teach_48 (by decide) [1, 2, 3, 4, 5, 6, 0] rfl ?_
    exact h3
theorem sg_X8_teach_50 {G : GW} {K : Option Value → Mem → Prop} {μ : Mem} {α : Mem} (hf : WF α) {x1 x2 x3 x4 x5 x6 : Int32}  (h : ((7 ≤ x6) → Ev2 G mX8_teach 8 40 [(0, .ref 82), (1, .int x1), (2, .int x2), (3, .int x3), (4, .int x4), (5, .int (x5 + 1))] [] μ K) ∧ ((¬ (7 ≤ x6)) → ((x5 = x6) → Ev2 G mX8_teach 8 50 [(0, .ref 82), (1, .int x1), (2, .int x2), (3, .int x3), (4, .int x4), (5, .int x5), (6, .int (x6 + 1))] [] μ K) ∧ ((¬ (x5 = x6)) → (vp_in ((7 * x5) + x6) 49) ∧ (vp_in x4 8) ∧ (VM α (mset (horseN μ x4.toNatClampNeg (0 : Int32) x5 x6 (imax 1 ((μ 83 ((7 * x5) + x6).toNatClampNeg) / 3)) (0 : Int32)) 82 4 (x4 + 1))) ∧ ∀ (z13 : Int32) (μ14 : Mem), (z13 = ridA α (allA α) ∧ onlyM 99 105 (mset (horseN μ x4.toNatClampNeg (0 : Int32) x5 x6 (imax 1 ((μ 83 ((7 * x5) + x6).toNatClampNeg) / 3)) (0 : Int32)) 82 4 (x4 + 1)) μ14) → ((x3 ≤ z13) → Ev2 G mX8_teach 8 50 [(0, .ref 82), (1, .int x1), (2, .int x2), (3, .int (imin x3 z13)), (4, .int x4), (5, .int x5), (6, .int (x6 + 1))] [] (mset μ14 82 4 x4) K) ∧ ((¬ (x3 ≤ z13)) → Ev2 G mX8_teach 8 50 [(0, .ref 82), (1, .int x1), (2, .int ((10 * x5) + x6)), (3, .int (imin x3 z13)), (4, .int x4), (5, .int x5), (6, .int (x6 + 1))] [] (mset μ14 82 4 x4) K)))) : Ev2 G mX8_teach 8 50 [(0, .ref 82), (1, .int x1), (2, .int x2), (3, .int x3), (4, .int x4), (5, .int x5), (6, .int x6)] [] μ K := by
  refine ev_iload dX8_teach_50 6 rfl ?_
  refine ev_bipush (v := 7) dX8_teach_52 rfl ?_
  refine ev_icmp_ge (tgt := 147) dX8_teach_54 rfl (fun c1 => ?_) (fun c1 => ?_)
  · have h2 := h.1 c1
    refine ev_iinc (v := (x5 + 1)) (lv' := [(0, .ref 82), (1, .int x1), (2, .int x2), (3, .int x3), (4, .int x4), (5, .int (x5 + 1)), (6, .int x6)]) dX8_teach_147 5 rfl rfl (by decide) [1, 2, 3, 4, 5, 0, 6] rfl ?_
    refine ev_goto (tgt := 40) dX8_teach_150 rfl ?_
    refine EvW.less [0, 1, 2, 3, 4, 5] (lv' := [(0, .ref 82), (1, .int x1), (2, .int x2), (3, .int x3), (4, .int x4), (5, .int (x5 + 1))]) rfl ?_
    exact h2
  · have h3 := h.2 c1
    refine ev_iload dX8_teach_57 5 rfl ?_
    refine ev_iload dX8_teach_59 6 rfl ?_
    refine ev_icmp_eq (tgt := 141) dX8_teach_61 rfl (fun c4 => ?_) (fun c4 => ?_)
    · have h5 := h3.1 c4
      refine ev_iinc (v := (x6 + 1)) (lv' := [(0, .ref 82), (1, .int x1), (2, .int x2), (3, .int x3), (4, .int x4), (5, .int x5), (6, .int (x6 + 1))]) dX8_teach_141 6 rfl rfl (by decide) [1, 2, 3, 4, 5, 6, 0] rfl ?_
      refine ev_goto (tgt := 50) dX8_teach_144 rfl ?_
      exact h5
    · have h6 := h3.2 c4
      refine ev_aload_n dX8_teach_64 0 rfl (by decide) ?_
      refine ev_iload dX8_teach_65 4 rfl ?_
      refine ev_iconst (v := 0) dX8_teach_67 rfl ?_
      refine ev_iload dX8_teach_68 5 rfl ?_
      refine ev_iload dX8_teach_70 6 rfl ?_
      refine ev_iconst (v := 1) dX8_teach_72 rfl ?_
      refine ev_aload_n dX8_teach_73 0 rfl (by decide) ?_
      refine ev_getR' fl_8_14 rfl kd_82 rf_82_0 dX8_teach_74 ?_
      refine ev_bipush (v := 7) dX8_teach_77 rfl ?_
      refine ev_iload dX8_teach_79 5 rfl ?_
      refine ev_imul dX8_teach_81 ?_
      refine ev_iload dX8_teach_82 6 rfl ?_
      refine ev_iadd dX8_teach_84 ?_
      have p7 := h6.1
      have h8 := h6.2
      refine ev_iaload' (v := (μ 83 ((7 * x5) + x6).toNatClampNeg)) kd_83 ln_83 p7 rfl dX8_teach_85 ?_
      refine ev_iconst (v := 3) dX8_teach_86 rfl ?_
      refine ev_idiv dX8_teach_87 (by decide) ?_
      refine ev_max ml_8_64 dX8_teach_88 (Nat.le_of_ble_eq_true rfl) (by decide) ⟨Nat.le_refl _, Nat.le_refl _⟩ ?_
      refine ev_iconst (v := 0) dX8_teach_91 rfl ?_
      have p9 := h8.1
      have h10 := h8.2
      refine e2_callVv (μ1 := (horseN μ x4.toNatClampNeg (0 : Int32) x5 x6 (imax 1 ((μ 83 ((7 * x5) + x6).toNatClampNeg) / 3)) (0 : Int32))) (a := 82) (as := [.int x4, .int 0, .int x5, .int x6, .int (imax 1 ((μ 83 ((7 * x5) + x6).toNatClampNeg) / 3)), .int 0]) (st := []) ok_X8_horseIs vi_X8_horseIs ml_8_53 hcl_8 kd_82 dX8_teach_92 rfl rfl (Nat.le_of_ble_eq_true rfl) (Nat.le_of_ble_eq_true rfl) (by decide) (ct_X8_horseIs (x4) (0) (x5) (x6) ((imax 1 ((μ 83 ((7 * x5) + x6).toNatClampNeg) / 3))) (0) μ p9) ?_
      refine ev_aload_n dX8_teach_95 0 rfl (by decide) ?_
      refine ev_iload dX8_teach_96 4 rfl ?_
      refine ev_iconst (v := 1) dX8_teach_98 rfl ?_
      refine ev_iadd dX8_teach_99 ?_
      refine ev_putI fl_8_7 ⟨rfl, rfl, rfl⟩ (fun r hr => by cases hr; rfl) kd_82 dX8_teach_100 ?_
      refine ev_aload_n dX8_teach_103 0 rfl (by decide) ?_
      have p11 := h10.1
      have h12 := h10.2
      refine e2_callVr (Rl := fun z13 μ14 => z13 = ridA α (allA α) ∧ onlyM 99 105 (mset (horseN μ x4.toNatClampNeg (0 : Int32) x5 x6 (imax 1 ((μ 83 ((7 * x5) + x6).toNatClampNeg) / 3)) (0 : Int32)) 82 4 (x4 + 1)) μ14) (a := 82) (as := []) (st := []) ok_X8_all vi_X8_all ml_8_278 hcl_8 kd_82 dX8_teach_104 rfl rfl (Nat.le_of_ble_eq_true rfl) (Nat.le_of_ble_eq_true rfl) (by decide) (ct_X8_all hf (mset (horseN μ x4.toNatClampNeg (0 : Int32) x5 x6 (imax 1 ((μ 83 ((7 * x5) + x6).toNatClampNeg) / 3)) (0 : Int32)) 82 4 (x4 + 1)) p11) (fun z13 μ14 r15 => ?_)
      have h16 := h12 z13 μ14 r15
      refine ev_istore (lv' := [(0, .ref 82), (1, .int x1), (2, .int x2), (3, .int x3), (4, .int x4), (5, .int x5), (6, .int x6), (7, .int z13)]) dX8_teach_107 (by decide) [1, 2, 3, 4, 5, 6, 7, 0] rfl ?_
      refine ev_aload_n dX8_teach_109 0 rfl (by decide) ?_
      refine ev_iload dX8_teach_110 4 rfl ?_
      refine ev_putI fl_8_7 ⟨rfl, rfl, rfl⟩ (fun r hr => by cases hr; rfl) kd_82 dX8_teach_112 ?_
      refine ev_iload dX8_teach_115 7 rfl ?_
      refine ev_iload_n dX8_teach_117 3 rfl ?_
      refine ev_icmp_ge (tgt := 132) dX8_teach_118 rfl (fun c17 => ?_) (fun c17 => ?_)
      · have h18 := h16.1 c17
        refine ev_iload_n dX8_teach_132 2 rfl ?_
        refine ev_istore_n (lv' := [(0, .ref 82), (1, .int x1), (2, .int x2), (3, .int x3), (4, .int x4), (5, .int x5), (6, .int x6), (7, .int z13)]) dX8_teach_133 (by decide) [1, 2, 0, 3, 4, 5, 6, 7] rfl ?_
        refine ev_iload_n dX8_teach_134 3 rfl ?_
        refine ev_iload dX8_teach_135 7 rfl ?_
        refine ev_min ml_8_244 dX8_teach_137 (Nat.le_of_ble_eq_true rfl) (by decide) ⟨Nat.le_refl _, Nat.le_refl _⟩ ?_
        refine ev_istore_n (lv' := [(0, .ref 82), (1, .int x1), (2, .int x2), (3, .int (imin x3 z13)), (4, .int x4), (5, .int x5), (6, .int x6), (7, .int z13)]) dX8_teach_140 (by decide) [1, 2, 3, 0, 4, 5, 6, 7] rfl ?_
        refine ev_iinc (v := (x6 + 1)) (lv' := [(0, .ref 82), (1, .int x1), (2, .int x2), (3, .int (imin x3 z13)), (4, .int x4), (5, .int x5), (6, .int (x6 + 1)), (7, .int z13)]) dX8_teach_141 6 rfl rfl (by decide) [1, 2, 3, 4, 5, 6, 0, 7] rfl ?_
        refine ev_goto (tgt := 50) dX8_teach_144 rfl ?_
        refine EvW.less [0, 1, 2, 3, 4, 5, 6] (lv' := [(0, .ref 82), (1, .int x1), (2, .int x2), (3, .int (imin x3 z13)), (4, .int x4), (5, .int x5), (6, .int (x6 + 1))]) rfl ?_
        exact h18
      · have h19 := h16.2 c17
        refine ev_bipush (v := 10) dX8_teach_121 rfl ?_
        refine ev_iload dX8_teach_123 5 rfl ?_
        refine ev_imul dX8_teach_125 ?_
        refine ev_iload dX8_teach_126 6 rfl ?_
        refine ev_iadd dX8_teach_128 ?_
        refine ev_goto (tgt := 133) dX8_teach_129 rfl ?_
        refine ev_istore_n (lv' := [(0, .ref 82), (1, .int x1), (2, .int ((10 * x5) + x6)), (3, .int x3), (4, .int x4), (5, .int x5), (6, .int x6), (7, .int z13)]) dX8_teach_133 (by decide) [1, 2, 0, 3, 4, 5, 6, 7] rfl ?_
        refine ev_iload_n dX8_teach_134 3 rfl ?_
        refine ev_iload dX8_teach_135 7 rfl ?_
        refine ev_min ml_8_244 dX8_teach_137 (Nat.le_of_ble_eq_true rfl) (by decide) ⟨Nat.le_refl _, Nat.le_refl _⟩ ?_
        refine ev_istore_n (lv' := [(0, .ref 82), (1, .int x1), (2, .int ((10 * x5) + x6)), (3, .int (imin x3 z13)), (4, .int x4), (5, .int x5), (6, .int x6), (7, .int z13)]) dX8_teach_140 (by decide) [1, 2, 3, 0, 4, 5, 6, 7] rfl ?_
        refine ev_iinc (v := (x6 + 1)) (lv' := [(0, .ref 82), (1, .int x1), (2, .int ((10 * x5) + x6)), (3, .int (imin x3 z13)), (4, .int x4), (5, .int x5), (6, .int (x6 + 1)), (7, .int z13)]) dX8_teach_141 6 rfl rfl (by decide) [1, 2, 3, 4, 5, 6, 0, 7] rfl ?_
        refine ev_goto (tgt := 50) dX8_teach_144 rfl ?_
        refine EvW.less [0, 1, 2, 3, 4, 5, 6] (lv' := [(0, .ref 82), (1, .int x1), (2, .int ((10 * x5) + x6)), (3, .int (imin x3 z13)), (4, .int x4), (5, .int x5), (6, .int (x6 + 1))]) rfl ?_
        exact h19
theorem lp_X8_teachB {G : GW} {α μ0 : Mem} (hf : WF α) (hn : aN α < 7) {x1 : Int32} {a : Nat} (ha : a < 7) {K : Option Value → Mem → Prop} (hk : ∀ μ, VM α μ → keepX μ0 μ → Ev2 G mX8_teach 8 40 [(0, .ref 82), (1, .int x1), (2, .int (tchA α (7 * (a + 1))).2), (3, .int (tchA α (7 * (a + 1))).1), (4, .int (nI (aN α))), (5, .int (nI (a + 1)))] [] μ K) : ∀ j b (μ : Mem), b + j = 7 → VM α μ → keepX μ0 μ → Ev2 G mX8_teach 8 50 [(0, .ref 82), (1, .int x1), (2, .int (tchA α (7 * a + b)).2), (3, .int (tchA α (7 * a + b)).1), (4, .int (nI (aN α))), (5, .int (nI a)), (6, .int (nI b))] [] μ K := by
  have vm_all : ∀ (β ν : Mem) (hfβ : WF β), VM β ν → ∀ (z : Int32) (ξ : Mem), (z = ridA β (allA β) ∧ onlyM 99 105 ν ξ) → VM β ξ ∧ keepX ν ξ := fun β ν hfβ h z ξ hz => h.o hfβ hz.2
  intro j
  induction j with
  | zero =>
    intro b μ hb h hm
    obtain rfl : b = 7 := hb
    have hx := hk μ h hm
    rw [← nI_1, show 7 * (a + 1) = 7 * a + 7 by omega] at hx
    exact sg_X8_teach_50 hf ⟨fun _ => hx, fun c => absurd (nI_le (a := 7) (Nat.le_refl _) (by omega)) c⟩
  | succ j ih =>
    intro b μ hb h hm
    have hh := fun μ => ih (b + 1) μ (by omega)
    rw [show 7 * a + (b + 1) = 7 * a + b + 1 by omega, tchA_succ, show (7 * a + b) / 7 = a by omega, show (7 * a + b) % 7 = b by omega, ← nI_1] at hh
    by_cases c : a = b
    · refine sg_X8_teach_50 hf ⟨fun d => absurd d (nI_ge (b := 7) (by omega) (by omega)), fun _ => ⟨fun _ => ?_, fun d => absurd (by rw [c]) d⟩⟩
      rw [if_pos c] at hh
      exact hh μ h hm
    · have hwf := wf_taught hf hn (w := 7 * a + b) (by omega) (by omega)
      have eT : taughtA α (7 * a + b) = newA α 0 (nI a) (nI b) (imax 1 (α 1 (7 * a + b) / 3)) 0 := by
        unfold taughtA
        rw [show (7 * a + b) / 7 = a by omega, show (7 * a + b) % 7 = b by omega]
      obtain ⟨g1, g2⟩ := vm_new hf h hn 0 (nI a) (nI b) (imax 1 (α 1 (7 * a + b) / 3)) 0
      rw [eT] at hwf hh
      rw [if_neg c, ← all_new hf hn hwf] at hh
      obtain ⟨q1, q2⟩ := ix_7 ha (show b < 7 by omega)
      refine sg_X8_teach_50 hwf ⟨fun d => absurd d (nI_ge (b := 7) (by omega) (by omega)), fun _ => ⟨fun d => absurd ((nI_eq (by omega) (by omega)).mp d) c, fun _ => ?_⟩⟩
      rw [q2, ix_nI (by omega), h.2.1 _ (by omega), nI_1]
      refine ⟨q1, vp_nI (by omega) (by omega), g1, fun z ν hz => ?_⟩
      obtain ⟨g3, g4⟩ := vm_all _ _ hwf g1 z ν hz
      have ez := hz.1
      have g5 := vm_forget hf g3
      have k5 : keepX μ0 (mset ν 82 4 (nI (aN α))) := ((hm.tr g2).tr g4).tr (keepX.set (by omega))
      rw [← ez] at hh
      unfold stepT at hh
      refine ⟨fun d => ?_, fun d => ?_⟩
      · rw [if_pos d] at hh
        rw [imin_le d]
        exact hh _ g5 k5
      · rw [if_neg d] at hh
        rw [imin_nle d]
        exact hh _ g5 k5
theorem lp_X8_teach {G : GW} {α μ0 : Mem} (hf : WF α) (hn : aN α < 7) {x1 : Int32} : ∀ j a (μ : Mem), a + j = 7 → VM α μ → keepX μ0 μ → Ev2 G mX8_teach 8 40 [(0, .ref 82), (1, .int x1), (2, .int (tchA α (7 * a)).2), (3, .int (tchA α (7 * a)).1), (4, .int (nI (aN α))), (5, .int (nI a))] [] μ (fun v μ' => v = some (.int (sel2 x1 (tchA α 49).2 (tchA α 49).1)) ∧ VM α μ' ∧ keepX μ0 μ') := by
  intro j
  induction j with
  | zero =>
    intro a μ hb h hm
    obtain rfl : a = 7 := hb
    refine sg_X8_teach_40 hf ⟨fun _ => ⟨fun c => ⟨?_, h, hm⟩, fun c => ⟨?_, h, hm⟩⟩, fun c => absurd (nI_le (a := 7) (Nat.le_refl _) (by omega)) c⟩
    · unfold sel2; rw [if_neg c]
    · unfold sel2; rw [if_pos c]
  | succ j ih =>
    intro a μ hb h hm
    refine sg_X8_teach_40 hf ⟨fun c => absurd c (nI_ge (b := 7) (by omega) (by omega)), fun _ => ?_⟩
    exact lp_X8_teachB hf hn (by omega) (fun μ h hm => ih (a + 1) μ (by omega) h hm) 7 0 μ rfl h hm
theorem pb_X8_teach {G : GW} {α μ : Mem} (hf : WF α) (h : VM α μ) (x1 : Int32) : pubM G mX8_teach 8 [(0, .ref 82), (1, .int x1)] α μ (.int (sp_teach α x1)) α := by
  have hk := keepX.rf μ
  have cN : μ 82 4 = nI (aN α) := h.n hf
  have hN := hf.1.1.2
  refine sg_X8_teach_0 hf ?_
  rw [cN]
  unfold sp_teach
  rw [hf.1.1.1]
  refine ⟨fun c => ⟨fun d => ?_, fun d => ?_⟩, fun c => ?_⟩
  · have hn : aN α < 7 := by
      rcases Nat.lt_or_ge (aN α) 7 with q | q
      · exact q
      · exact absurd (show nI (aN α) = 7 by rw [show aN α = 7 by omega]; rfl) d
    have c7 : nI (aN α) < 7 := nI_lt (b := 7) hn (by omega)
    rw [if_pos c, if_pos c7]
    refine ⟨h, fun z ν hz => ?_⟩
    obtain ⟨h1, k1⟩ := h.o hf hz.2
    rw [h1.n hf]
    have hh := lp_X8_teach (G := G) (μ0 := μ) hf hn (x1 := x1) 7 0 ν rfl h1 k1
    rw [Nat.mul_zero, tchA_01, tchA_02, ← hz.1] at hh
    exact hh
  · rw [if_pos c, d, if_neg (by decide)]
    exact ⟨rfl, h, hk⟩
  · rw [if_neg (by rw [c]; decide)]
    exact ⟨rfl, h, hk⟩
/-! move -/
theorem rid_range {α : Mem} (hf : WF α) {set : Int32} (hs : setOK (aN α) set) : ∃ s, s ≤ 3996 ∧ ridA α set = nI s := by
  have key : ∀ r, r ≤ aR α → ∃ s, s ≤ 999 * r ∧ ridV (soonA α set) (fun r => (α 2 r).toNatClampNeg) (fun r => (α 3 r).toNatClampNeg) r = nI s := by
    intro r
    induction r with
    | zero => intro _; exact ⟨0, by omega, rfl⟩
    | succ r ih =>
      intro hr
      obtain ⟨s, hs1, e⟩ := ih (by omega)
      obtain ⟨⟨p, hp, ep⟩, q, hq, eq⟩ := hf.2.2.1 r (by omega)
      obtain ⟨t, ht, et⟩ := soon_999 hf hs hp hq
      rw [ridV_s, e, ep, eq, ix_nI (by omega), ix_nI (by omega), et, nI_add]
      exact ⟨s + t, by omega, rfl⟩
  obtain ⟨s, h1, h2⟩ := key (aR α) (Nat.le_refl _)
  have := hf.1.2.1.2
  exact ⟨s, by omega, h2⟩
theorem vm_from {α μ : Mem} {i : Nat} {q p : Int32} (h : VM (fromA α i q) μ) : VM (fromA α i p) (mset μ 87 i p) ∧ keepX μ (mset μ 87 i p) := by
  obtain ⟨vc, vw, vr, vh, vt, vx, vi, vs, vk⟩ := h
  have e : ∀ r, r ≠ 5 → fromA α i p r = fromA α i q r := fun r h => by unfold fromA; rw [mset_ne h, mset_ne h]
  have e0 : ∀ k, k < 100 → fromA α i p 0 k = fromA α i q 0 k := fun k _ => by rw [e 0 (by omega)]
  have n : ∀ r, r ≠ 87 → mset μ 87 i p r = μ r := fun r h => mset_ne h
  have n0 : ∀ k, k < 100 → mset μ 87 i p 82 k = μ 82 k := fun k _ => by rw [n 82 (by omega)]
  refine ⟨⟨?_, ?_, ?_, ?_, ?_, ?_, ?_, ?_, ?_⟩, keepX.set (by omega)⟩
  · exact vc.eq (fun k _ => e0 k (by omega)) (fun k _ => n0 k (by omega))
  · exact vw.eq (e 1 (by omega)) (n 83 (by omega))
  · exact vr.eq (e0 1 (by omega)) (e 2 (by omega)) (e 3 (by omega)) (n 84 (by omega)) (n 85 (by omega))
  · intro j hj f hf
    have hj' : j < aN (fromA α i q) := by
      unfold aN at hj ⊢
      rw [e0 0 (by omega)] at hj
      exact hj
    by_cases c : f = 1
    · subst c
      show mset μ 87 i p 87 j = fromA α i p 5 j
      by_cases cj : j = i
      · unfold fromA
        rw [cj, mset_same, mset_same]
      · have := vh j hj' 1 (by omega)
        unfold fromA at this ⊢
        rw [mset_other (by omega)] at this
        rw [mset_other (by omega), mset_other (by omega)]
        exact this
    · rw [e (4 + f) (by omega), n (86 + f) (by omega)]
      exact vh j hj' f hf
  · exact vt.eq (e0 4 (by omega)) (e 10 (by omega)) (n 92 (by omega))
  · exact vx.eq (e0 2 (by omega)) (e 17 (by omega)) (e 18 (by omega)) (n 93 (by omega)) (n 94 (by omega))
  · exact vi.eq (e 11 (by omega)) (e 12 (by omega)) (e 13 (by omega)) (fun k _ => n0 k (by omega)) (n 107 (by omega)) (n 108 (by omega))
  · exact vs.eq (e 14 (by omega)) (e 15 (by omega)) (e 16 (by omega)) (n 109 (by omega)) (n 110 (by omega)) (n 111 (by omega))
  · exact vk.eq (n 95 (by omega)) (n 96 (by omega))
theorem sg_X8_move_0 {G : GW} {K : Option Value → Mem → Prop} {μ : Mem} {α : Mem} (hf : WF α) {x1 x2 : Int32}  (h : (((inB x1 0 (μ 82 4 - 1)) = true) → (((inB x2 (0 : Int32) (1 : Int32)) = true) → (vp_in x1 8) ∧ Ev2 G mX8_move 8 39 [(0, .ref 82), (1, .int x1), (2, .int x2), (3, .int (μ 87 x1.toNatClampNeg)), (4, .int (-1)), (5, .int 0), (6, .int 0)] [] μ K) ∧ (((inB x2 (0 : Int32) (1 : Int32)) = false) → K (some (.int (-7))) μ)) ∧ (((inB x1 0 (μ 82 4 - 1)) = false) → K (some (.int (-5))) μ)) : Ev2 G mX8_move 8 0 [(0, .ref 82), (1, .int x1), (2, .int x2)] [] μ K := by
  refine ev_aload_n dX8_move_0 0 rfl (by decide) ?_
  refine ev_iload_n dX8_move_1 1 rfl ?_
  refine e2_callV (w := .int (bi (inB x1 0 (μ 82 4 - 1)))) (μ1 := μ) (a := 82) (as := [.int x1]) (st := []) ok_X8_isHorse vi_X8_isHorse ml_8_57 hcl_8 kd_82 dX8_move_2 rfl rfl (Nat.le_of_ble_eq_true rfl) (Nat.le_of_ble_eq_true rfl) (by decide) (ct_X8_isHorse (x1) μ) ?_
  refine ev_ifne_bi (tgt := 11) dX8_move_5 rfl (fun c1 => ?_) (fun c1 => ?_)
  · have h2 := h.1 c1
    refine ev_iload_n dX8_move_11 2 rfl ?_
    refine ev_iconst (v := 0) dX8_move_12 rfl ?_
    refine ev_iconst (v := 1) dX8_move_13 rfl ?_
    refine e2_callS (w := .int (bi (inB x2 (0 : Int32) (1 : Int32)))) (μ1 := μ) (as := [.int x2, .int 0, .int 1]) (st := []) ok_X8_isIn sv_X8_isIn ml_8_3 dX8_move_14 rfl rfl (Nat.le_of_ble_eq_true rfl) (Nat.le_of_ble_eq_true rfl) (by decide) (ct_X8_isIn (x2) (0) (1) μ) ?_
    refine ev_ifne_bi (tgt := 23) dX8_move_17 rfl (fun c4 => ?_) (fun c4 => ?_)
    · have h5 := h2.1 c4
      refine ev_aload_n dX8_move_23 0 rfl (by decide) ?_
      refine ev_getR' fl_8_38 rfl kd_82 rf_82_6 dX8_move_24 ?_
      refine ev_iload_n dX8_move_27 1 rfl ?_
      have p7 := h5.1
      have h8 := h5.2
      refine ev_iaload' (v := (μ 87 x1.toNatClampNeg)) kd_87 ln_87 p7 rfl dX8_move_28 ?_
      refine ev_istore_n (lv' := [(0, .ref 82), (1, .int x1), (2, .int x2), (3, .int (μ 87 x1.toNatClampNeg))]) dX8_move_29 (by decide) [1, 2, 3, 0] rfl ?_
      refine ev_iconst (v := (-1)) dX8_move_30 rfl ?_
      refine ev_istore (lv' := [(0, .ref 82), (1, .int x1), (2, .int x2), (3, .int (μ 87 x1.toNatClampNeg)), (4, .int (-1))]) dX8_move_31 (by decide) [1, 2, 3, 4, 0] rfl ?_
      refine ev_iconst (v := 0) dX8_move_33 rfl ?_
      refine ev_istore (lv' := [(0, .ref 82), (1, .int x1), (2, .int x2), (3, .int (μ 87 x1.toNatClampNeg)), (4, .int (-1)), (5, .int 0)]) dX8_move_34 (by decide) [1, 2, 3, 4, 5, 0] rfl ?_
      refine ev_iconst (v := 0) dX8_move_36 rfl ?_
      refine ev_istore (lv' := [(0, .ref 82), (1, .int x1), (2, .int x2), (3, .int (μ 87 x1.toNatClampNeg)), (4, .int (-1)), (5, .int 0), (6, .int 0)]) dX8_move_37 (by decide) [1, 2, 3, 4, 5, 6, 0] rfl ?_
      exact h8
    · have h6 := h2.2 c4
      refine ev_bipush (v := (-7)) dX8_move_20 rfl ?_
      exact ev_ireturn dX8_move_22 rfl True.intro rfl rfl ⟨rfl, h6⟩
  · have h3 := h.2 c1
    refine ev_bipush (v := (-5)) dX8_move_8 rfl ?_
    exact ev_ireturn dX8_move_10 rfl True.intro rfl rfl ⟨rfl, h3⟩
theorem sg_X8_move_39 {G : GW} {K : Option Value → Mem → Prop} {μ : Mem} {α : Mem} (hf : WF α) {x1 x2 x3 x4 x5 x6 : Int32}  (h : ((7 ≤ x6) → (vp_in x1 8) ∧ ((¬ x2 = 0) → K (some (.int x5)) (mset μ 87 x1.toNatClampNeg x3)) ∧ ((x2 = 0) → K (some (.int x4)) (mset μ 87 x1.toNatClampNeg x3))) ∧ ((¬ (7 ≤ x6)) → (vp_in x1 8) ∧ ((x6 = (μ 88 x1.toNatClampNeg)) → Ev2 G mX8_move 8 39 [(0, .ref 82), (1, .int x1), (2, .int x2), (3, .int x3), (4, .int x4), (5, .int x5), (6, .int (x6 + 1))] [] μ K) ∧ ((¬ (x6 = (μ 88 x1.toNatClampNeg))) → (vp_in x1 8) ∧ (VM α (mset μ 87 x1.toNatClampNeg x6)) ∧ ∀ (z18 : Int32) (μ19 : Mem), (z18 = ridA α (allA α) ∧ onlyM 99 105 (mset μ 87 x1.toNatClampNeg x6) μ19) → ((x4 = (-1)) → Ev2 G mX8_move 8 39 [(0, .ref 82), (1, .int x1), (2, .int x2), (3, .int x3), (4, .int x6), (5, .int z18), (6, .int (x6 + 1))] [] μ19 K) ∧ ((¬ (x4 = (-1))) → ((x5 ≤ z18) → Ev2 G mX8_move 8 39 [(0, .ref 82), (1, .int x1), (2, .int x2), (3, .int x3), (4, .int x4), (5, .int x5), (6, .int (x6 + 1))] [] μ19 K) ∧ ((¬ (x5 ≤ z18)) → Ev2 G mX8_move 8 39 [(0, .ref 82), (1, .int x1), (2, .int x2), (3, .int x3), (4, .int x6), (5, .int z18), (6, .int (x6 + 1))] [] μ19 K))))) : Ev2 G mX8_move 8 39 [(0, .ref 82), (1, .int x1), (2, .int x2), (3, .int x3), (4, .int x4), (5, .int x5), (6, .int x6)] [] μ K := by
  refine ev_iload dX8_move_39 6 rfl ?_
  refine ev_bipush (v := 7) dX8_move_41 rfl ?_
  refine ev_icmp_ge (tgt := 98) dX8_move_43 rfl (fun c1 => ?_) (fun c1 => ?_)
  · have h2 := h.1 c1
    refine ev_aload_n dX8_move_98 0 rfl (by decide) ?_
    refine ev_getR' fl_8_38 rfl kd_82 rf_82_6 dX8_move_99 ?_
    refine ev_iload_n dX8_move_102 1 rfl ?_
    refine ev_iload_n dX8_move_103 3 rfl ?_
    have p4 := h2.1
    have h5 := h2.2
    refine ev_iastore' (j := x1.toNatClampNeg) kd_87 ln_87 p4 rfl dX8_move_104 ?_
    refine ev_iload_n dX8_move_105 2 rfl ?_
    refine ev_if_ne (tgt := 114) dX8_move_106 rfl (fun c6 => ?_) (fun c6 => ?_)
    · have h7 := h5.1 c6
      refine ev_iload dX8_move_114 5 rfl ?_
      exact ev_ireturn dX8_move_116 rfl True.intro rfl rfl ⟨rfl, h7⟩
    · have h8 := h5.2 c6
      refine ev_iload dX8_move_109 4 rfl ?_
      refine ev_goto (tgt := 116) dX8_move_111 rfl ?_
      exact ev_ireturn dX8_move_116 rfl True.intro rfl rfl ⟨rfl, h8⟩
  · have h3 := h.2 c1
    refine ev_iload dX8_move_46 6 rfl ?_
    refine ev_aload_n dX8_move_48 0 rfl (by decide) ?_
    refine ev_getR' fl_8_41 rfl kd_82 rf_82_7 dX8_move_49 ?_
    refine ev_iload_n dX8_move_52 1 rfl ?_
    have p9 := h3.1
    have h10 := h3.2
    refine ev_iaload' (v := (μ 88 x1.toNatClampNeg)) kd_88 ln_88 p9 rfl dX8_move_53 ?_
    refine ev_icmp_eq (tgt := 92) dX8_move_54 rfl (fun c11 => ?_) (fun c11 => ?_)
    · have h12 := h10.1 c11
      refine ev_iinc (v := (x6 + 1)) (lv' := [(0, .ref 82), (1, .int x1), (2, .int x2), (3, .int x3), (4, .int x4), (5, .int x5), (6, .int (x6 + 1))]) dX8_move_92 6 rfl rfl (by decide) [1, 2, 3, 4, 5, 6, 0] rfl ?_
      refine ev_goto (tgt := 39) dX8_move_95 rfl ?_
      exact h12
    · have h13 := h10.2 c11
      refine ev_aload_n dX8_move_57 0 rfl (by decide) ?_
      refine ev_getR' fl_8_38 rfl kd_82 rf_82_6 dX8_move_58 ?_
      refine ev_iload_n dX8_move_61 1 rfl ?_
      refine ev_iload dX8_move_62 6 rfl ?_
      have p14 := h13.1
      have h15 := h13.2
      refine ev_iastore' (j := x1.toNatClampNeg) kd_87 ln_87 p14 rfl dX8_move_64 ?_
      refine ev_aload_n dX8_move_65 0 rfl (by decide) ?_
      have p16 := h15.1
      have h17 := h15.2
      refine e2_callVr (Rl := fun z18 μ19 => z18 = ridA α (allA α) ∧ onlyM 99 105 (mset μ 87 x1.toNatClampNeg x6) μ19) (a := 82) (as := []) (st := []) ok_X8_all vi_X8_all ml_8_278 hcl_8 kd_82 dX8_move_66 rfl rfl (Nat.le_of_ble_eq_true rfl) (Nat.le_of_ble_eq_true rfl) (by decide) (ct_X8_all hf (mset μ 87 x1.toNatClampNeg x6) p16) (fun z18 μ19 r20 => ?_)
      have h21 := h17 z18 μ19 r20
      refine ev_istore (lv' := [(0, .ref 82), (1, .int x1), (2, .int x2), (3, .int x3), (4, .int x4), (5, .int x5), (6, .int x6), (7, .int z18)]) dX8_move_69 (by decide) [1, 2, 3, 4, 5, 6, 7, 0] rfl ?_
      refine ev_iload dX8_move_71 4 rfl ?_
      refine ev_iconst (v := (-1)) dX8_move_73 rfl ?_
      refine ev_icmp_eq (tgt := 84) dX8_move_74 rfl (fun c22 => ?_) (fun c22 => ?_)
      · have h23 := h21.1 c22
        refine ev_iload dX8_move_84 6 rfl ?_
        refine ev_istore (lv' := [(0, .ref 82), (1, .int x1), (2, .int x2), (3, .int x3), (4, .int x6), (5, .int x5), (6, .int x6), (7, .int z18)]) dX8_move_86 (by decide) [1, 2, 3, 4, 0, 5, 6, 7] rfl ?_
        refine ev_iload dX8_move_88 7 rfl ?_
        refine ev_istore (lv' := [(0, .ref 82), (1, .int x1), (2, .int x2), (3, .int x3), (4, .int x6), (5, .int z18), (6, .int x6), (7, .int z18)]) dX8_move_90 (by decide) [1, 2, 3, 4, 5, 0, 6, 7] rfl ?_
        refine ev_iinc (v := (x6 + 1)) (lv' := [(0, .ref 82), (1, .int x1), (2, .int x2), (3, .int x3), (4, .int x6), (5, .int z18), (6, .int (x6 + 1)), (7, .int z18)]) dX8_move_92 6 rfl rfl (by decide) [1, 2, 3, 4, 5, 6, 0, 7] rfl ?_
        refine ev_goto (tgt := 39) dX8_move_95 rfl ?_
        refine EvW.less [0, 1, 2, 3, 4, 5, 6] (lv' := [(0, .ref 82), (1, .int x1), (2, .int x2), (3, .int x3), (4, .int x6), (5, .int z18), (6, .int (x6 + 1))]) rfl ?_
        exact h23
      · have h24 := h21.2 c22
        refine ev_iload dX8_move_77 7 rfl ?_
        refine ev_iload dX8_move_79 5 rfl ?_
        refine ev_icmp_ge (tgt := 92) dX8_move_81 rfl (fun c25 => ?_) (fun c25 => ?_)
        · have h26 := h24.1 c25
          refine ev_iinc (v := (x6 + 1)) (lv' := [(0, .ref 82), (1, .int x1), (2, .int x2), (3, .int x3), (4, .int x4), (5, .int x5), (6, .int (x6 + 1)), (7, .int z18)]) dX8_move_92 6 rfl rfl (by decide) [1, 2, 3, 4, 5, 6, 0, 7] rfl ?_
          refine ev_goto (tgt := 39) dX8_move_95 rfl ?_
          refine EvW.less [0, 1, 2, 3, 4, 5, 6] (lv' := [(0, .ref 82), (1, .int x1), (2, .int x2), (3, .int x3), (4, .int x4), (5, .int x5), (6, .int (x6 + 1))]) rfl ?_
          exact h26
        · have h27 := h24.2 c25
          refine ev_iload dX8_move_84 6 rfl ?_
          refine ev_istore (lv' := [(0, .ref 82), (1, .int x1), (2, .int x2), (3, .int x3), (4, .int x6), (5, .int x5), (6, .int x6), (7, .int z18)]) dX8_move_86 (by decide) [1, 2, 3, 4, 0, 5, 6, 7] rfl ?_
          refine ev_iload dX8_move_88 7 rfl ?_
          refine ev_istore (lv' := [(0, .ref 82), (1, .int x1), (2, .int x2), (3, .int x3), (4, .int x6), (5, .int z18), (6, .int x6), (7, .int z18)]) dX8_move_90 (by decide) [1, 2, 3, 4, 5, 0, 6, 7] rfl ?_
          refine ev_iinc (v := (x6 + 1)) (lv' := [(0, .ref 82), (1, .int x1), (2, .int x2), (3, .int x3), (4, .int x6), (5, .int z18), (6, .int (x6 + 1)), (7, .int z18)]) dX8_move_92 6 rfl rfl (by decide) [1, 2, 3, 4, 5, 6, 0, 7] rfl ?_
          refine ev_goto (tgt := 39) dX8_move_95 rfl ?_
          refine EvW.less [0, 1, 2, 3, 4, 5, 6] (lv' := [(0, .ref 82), (1, .int x1), (2, .int x2), (3, .int x3), (4, .int x6), (5, .int z18), (6, .int (x6 + 1))]) rfl ?_
          exact h27
theorem lp_X8_move {G : GW} {α μ0 : Mem} (hf : WF α) {i : Nat} (hi : i < aN α) {x2 : Int32} : ∀ j p q (μ : Mem) (y4 y5 : Int32), p + j = 7 → ((y4 = -1 ∧ mvA α i p = (1000000000, -1) ∧ ∀ u, u < p → nI u = α 6 i) ∨ (y4 = (mvA α i p).2 ∧ y5 = (mvA α i p).1 ∧ ∃ u, u < 7 ∧ y4 = nI u)) → WF (fromA α i q) → VM (fromA α i q) μ → keepX μ0 μ → Ev2 G mX8_move 8 39 [(0, .ref 82), (1, .int (nI i)), (2, .int x2), (3, .int (α 5 i)), (4, .int y4), (5, .int y5), (6, .int (nI p))] [] μ (fun v μ' => v = some (.int (sel2 x2 (mvA α i 7).2 (mvA α i 7).1)) ∧ VM α μ' ∧ keepX μ0 μ') := by
  have hi7 : i < 7 := Nat.lt_of_lt_of_le hi hf.1.1.2
  have vi8 : vp_in (nI i) 8 := vp_nI (by omega) (by omega)
  intro j
  induction j with
  | zero =>
    intro p q μ y4 y5 hp hy hq h hm
    obtain rfl : p = 7 := hp
    obtain ⟨g1, g2⟩ := vm_from (p := α 5 i) h
    rw [from_self] at g1
    rcases hy with ⟨-, -, hu⟩ | ⟨e4, e5, -⟩
    · exact absurd ((nI_eq (by omega) (by omega)).mp ((hu 0 (by omega)).trans (hu 1 (by omega)).symm)) (by omega)
    · refine sg_X8_move_39 hf ⟨fun _ => ⟨vi8, ?_⟩, fun c => absurd (nI_le (a := 7) (Nat.le_refl _) (by omega)) c⟩
      rw [ix_nI (by omega)]
      refine ⟨fun c => ⟨?_, g1, hm.tr g2⟩, fun c => ⟨?_, g1, hm.tr g2⟩⟩
      · unfold sel2; rw [if_neg c, e5]
      · unfold sel2; rw [if_pos c, e4]
  | succ j ih =>
    intro p q μ y4 y5 hp hy hq h hm
    have e0 : fromA α i q 0 = α 0 := mset_ne (by omega)
    have e6 : fromA α i q 6 = α 6 := mset_ne (by omega)
    have f2 : μ 88 i = α 6 i := by
      have := h.2.2.2.1 i (by unfold aN; rw [e0]; exact hi) 2 (by omega)
      exact this.trans (congrFun e6 i)
    have hh := fun q μ y4 y5 => ih (p + 1) q μ y4 y5 (by omega)
    rw [← nI_1] at hh
    by_cases c : nI p = α 6 i
    · refine sg_X8_move_39 hf ⟨fun d => absurd d (nI_ge (b := 7) (by omega) (by omega)), fun _ => ⟨vi8, ?_⟩⟩
      rw [ix_nI (by omega), f2]
      refine ⟨fun _ => hh q μ y4 y5 ?_ hq h hm, fun d => absurd c d⟩
      rw [mvA_succ, if_pos c]
      rcases hy with ⟨h1, h2, h3⟩ | hy
      · refine Or.inl ⟨h1, h2, fun u hu => ?_⟩
        by_cases cu : u = p
        · rw [cu]; exact c
        · exact h3 u (by omega)
      · exact Or.inr hy
    · have hw := wf_from hf (i := i) (p := p) (by omega) c
      obtain ⟨g1, g2⟩ := vm_from (p := nI p) h
      refine sg_X8_move_39 hw ⟨fun d => absurd d (nI_ge (b := 7) (by omega) (by omega)), fun _ => ⟨vi8, ?_⟩⟩
      rw [ix_nI (by omega), f2]
      refine ⟨fun d => absurd d c, fun _ => ⟨vi8, g1, fun z ν hz => ?_⟩⟩
      obtain ⟨ez, ho⟩ := hz
      obtain ⟨g3, g4⟩ := g1.o hw ho
      have ea : allA (fromA α i (nI p)) = allA α := by unfold allA; rw [show fromA α i (nI p) 0 = α 0 from mset_ne (by omega)]
      have k3 : keepX μ0 ν := (hm.tr g2).tr g4
      obtain ⟨s, hs, es⟩ := rid_range hw (allA_ok hw.1)
      rw [← ez] at es
      rw [ea] at ez
      rw [mvA_succ, if_neg c, ← ez] at hh
      rcases hy with ⟨h1, h2, h3⟩ | ⟨h1, h2, u, hu, h3⟩
      · have es2 : stepT (mvA α i p) z (nI p) = (z, nI p) := by
          rw [h2]
          have : ¬ (1000000000 : Int32) ≤ z := by rw [es]; exact Int32.not_le.mpr (nI_lt (b := 1000000000) (by omega) (by omega))
          exact if_neg this
        rw [es2] at hh
        exact ⟨fun _ => hh (nI p) ν _ _ (Or.inr ⟨rfl, rfl, p, by omega, rfl⟩) hw g3 k3, fun d => absurd h1 d⟩
      · unfold stepT at hh
        rw [← h2] at hh
        refine ⟨fun d => ?_, fun _ => ⟨fun d => ?_, fun d => ?_⟩⟩
        · rw [h3] at d
          exact absurd d (nI_m (by omega))
        · rw [if_pos d] at hh
          exact hh (nI p) ν _ _ (Or.inr ⟨h1, h2, u, hu, h3⟩) hw g3 k3
        · rw [if_neg d] at hh
          exact hh (nI p) ν _ _ (Or.inr ⟨rfl, rfl, p, by omega, rfl⟩) hw g3 k3
theorem pb_X8_move {G : GW} {α μ : Mem} (hf : WF α) (h : VM α μ) (x1 x2 : Int32) : pubM G mX8_move 8 [(0, .ref 82), (1, .int x1), (2, .int x2)] α μ (.int (sp_move α x1 x2)) α := by
  have hk := keepX.rf μ
  refine sg_X8_move_0 hf ?_
  rw [h.1.1]
  unfold sp_move
  refine ⟨fun c => ⟨fun d => ?_, fun d => ?_⟩, fun c => ?_⟩
  · rw [if_pos c, if_pos d]
    obtain ⟨i, hi, hi7, rfl⟩ := vH' hf c
    rw [ix_nI (by omega), (h.h1 hi).2.1]
    refine ⟨vp_nI (by omega) (by omega), ?_⟩
    refine lp_X8_move (G := G) (μ0 := μ) hf hi (x2 := x2) 7 0 (α 5 i) μ (-1) 0 rfl (Or.inl ⟨rfl, ?_, fun u hu => absurd hu (Nat.not_lt_zero u)⟩) (by rw [from_self]; exact hf) (by rw [from_self]; exact h) hk
    rw [mvA]
  · rw [if_pos c, if_neg (by rw [d]; decide)]
    exact ⟨rfl, h, hk⟩
  · rw [if_neg (by rw [c]; decide)]
    exact ⟨rfl, h, hk⟩
/-! cut -/
theorem sg_X8_cut_0 {G : GW} {K : Option Value → Mem → Prop} {μ : Mem} {α : Mem} (hf : WF α) {x1 x2 x3 : Int32}  (h : (((inB x1 0 6) = false) → K (some (.int (-1000000))) μ) ∧ (((inB x1 0 6) = true) → (((inB x2 0 6) = false) → K (some (.int (-1000000))) μ) ∧ (((inB x2 0 6) = true) → ((x1 = x2) → K (some (.int (-1000000))) μ) ∧ ((¬ (x1 = x2)) → (((inB x3 (1 : Int32) (999 : Int32)) = true) → (VM α μ) ∧ ∀ (z15 : Int32) (μ16 : Mem), (z15 = ridA α (allA α) ∧ onlyM 99 105 μ μ16) → (vp_in ((7 * x1) + x2) 49) ∧ ∀ y21 : Int32, y21 = (μ16 83 ((7 * x1) + x2).toNatClampNeg) → (vp_in x1 7 ∧ vp_in x2 7) ∧ Ev2 G mX8_cut 8 60 [(0, .ref 82), (1, .int x1), (2, .int x2), (4, .int z15), (5, .int y21)] [] (walkN μ16 x1.toNatClampNeg x2.toNatClampNeg x3) K) ∧ (((inB x3 (1 : Int32) (999 : Int32)) = false) → K (some (.int (-1000000))) μ))))) : Ev2 G mX8_cut 8 0 [(0, .ref 82), (1, .int x1), (2, .int x2), (3, .int x3)] [] μ K := by
  refine ev_iload_n dX8_cut_0 1 rfl ?_
  refine e2_callS (w := .int (bi (inB x1 0 6))) (μ1 := μ) (as := [.int x1]) (st := []) ok_X8_isPlace sv_X8_isPlace ml_8_18 dX8_cut_1 rfl rfl (Nat.le_of_ble_eq_true rfl) (Nat.le_of_ble_eq_true rfl) (by decide) (ct_X8_isPlace (x1) μ) ?_
  refine ev_ifeq_bi (tgt := 30) dX8_cut_4 rfl (fun c1 => ?_) (fun c1 => ?_)
  · have h2 := h.1 c1
    refine ev_ldcw dX8_cut_30 co_8_281 ?_
    exact ev_ireturn dX8_cut_33 rfl True.intro rfl rfl ⟨rfl, h2⟩
  · have h3 := h.2 c1
    refine ev_iload_n dX8_cut_7 2 rfl ?_
    refine e2_callS (w := .int (bi (inB x2 0 6))) (μ1 := μ) (as := [.int x2]) (st := []) ok_X8_isPlace sv_X8_isPlace ml_8_18 dX8_cut_8 rfl rfl (Nat.le_of_ble_eq_true rfl) (Nat.le_of_ble_eq_true rfl) (by decide) (ct_X8_isPlace (x2) μ) ?_
    refine ev_ifeq_bi (tgt := 30) dX8_cut_11 rfl (fun c4 => ?_) (fun c4 => ?_)
    · have h5 := h3.1 c4
      refine ev_ldcw dX8_cut_30 co_8_281 ?_
      exact ev_ireturn dX8_cut_33 rfl True.intro rfl rfl ⟨rfl, h5⟩
    · have h6 := h3.2 c4
      refine ev_iload_n dX8_cut_14 1 rfl ?_
      refine ev_iload_n dX8_cut_15 2 rfl ?_
      refine ev_icmp_eq (tgt := 30) dX8_cut_16 rfl (fun c7 => ?_) (fun c7 => ?_)
      · have h8 := h6.1 c7
        refine ev_ldcw dX8_cut_30 co_8_281 ?_
        exact ev_ireturn dX8_cut_33 rfl True.intro rfl rfl ⟨rfl, h8⟩
      · have h9 := h6.2 c7
        refine ev_iload_n dX8_cut_19 3 rfl ?_
        refine ev_iconst (v := 1) dX8_cut_20 rfl ?_
        refine ev_sipush (v := 999) dX8_cut_21 rfl ?_
        refine e2_callS (w := .int (bi (inB x3 (1 : Int32) (999 : Int32)))) (μ1 := μ) (as := [.int x3, .int 1, .int 999]) (st := []) ok_X8_isIn sv_X8_isIn ml_8_3 dX8_cut_24 rfl rfl (Nat.le_of_ble_eq_true rfl) (Nat.le_of_ble_eq_true rfl) (by decide) (ct_X8_isIn (x3) (1) (999) μ) ?_
        refine ev_ifne_bi (tgt := 34) dX8_cut_27 rfl (fun c10 => ?_) (fun c10 => ?_)
        · have h11 := h9.1 c10
          refine ev_aload_n dX8_cut_34 0 rfl (by decide) ?_
          have p13 := h11.1
          have h14 := h11.2
          refine e2_callVr (Rl := fun z15 μ16 => z15 = ridA α (allA α) ∧ onlyM 99 105 μ μ16) (a := 82) (as := []) (st := []) ok_X8_all vi_X8_all ml_8_278 hcl_8 kd_82 dX8_cut_35 rfl rfl (Nat.le_of_ble_eq_true rfl) (Nat.le_of_ble_eq_true rfl) (by decide) (ct_X8_all hf μ p13) (fun z15 μ16 r17 => ?_)
          have h18 := h14 z15 μ16 r17
          refine ev_istore (lv' := [(0, .ref 82), (1, .int x1), (2, .int x2), (3, .int x3), (4, .int z15)]) dX8_cut_38 (by decide) [1, 2, 3, 4, 0] rfl ?_
          refine ev_aload_n dX8_cut_40 0 rfl (by decide) ?_
          refine ev_getR' fl_8_14 rfl kd_82 rf_82_0 dX8_cut_41 ?_
          refine ev_bipush (v := 7) dX8_cut_44 rfl ?_
          refine ev_iload_n dX8_cut_46 1 rfl ?_
          refine ev_imul dX8_cut_47 ?_
          refine ev_iload_n dX8_cut_48 2 rfl ?_
          refine ev_iadd dX8_cut_49 ?_
          have p19 := h18.1
          have h20 := h18.2
          refine ev_iaload' (v := (μ16 83 ((7 * x1) + x2).toNatClampNeg)) kd_83 ln_83 p19 rfl dX8_cut_50 ?_
          refine ev_top (fun y21 ey21 => ?_)
          have h22 := h20 y21 ey21
          refine ev_istore (lv' := [(0, .ref 82), (1, .int x1), (2, .int x2), (3, .int x3), (4, .int z15), (5, .int y21)]) dX8_cut_51 (by decide) [1, 2, 3, 4, 5, 0] rfl ?_
          refine ev_aload_n dX8_cut_53 0 rfl (by decide) ?_
          refine ev_iload_n dX8_cut_54 1 rfl ?_
          refine ev_iload_n dX8_cut_55 2 rfl ?_
          refine ev_iload_n dX8_cut_56 3 rfl ?_
          have p23 := h22.1
          have h24 := h22.2
          refine e2_callVv (μ1 := (walkN μ16 x1.toNatClampNeg x2.toNatClampNeg x3)) (a := 82) (as := [.int x1, .int x2, .int x3]) (st := []) ok_X8_walkIs vi_X8_walkIs ml_8_22 hcl_8 kd_82 dX8_cut_57 rfl rfl (Nat.le_of_ble_eq_true rfl) (Nat.le_of_ble_eq_true rfl) (by decide) (ct_X8_walkIs (x1) (x2) (x3) μ16 p23) ?_
          refine EvW.less [0, 1, 2, 4, 5] (lv' := [(0, .ref 82), (1, .int x1), (2, .int x2), (4, .int z15), (5, .int y21)]) rfl ?_
          exact h24
        · have h12 := h9.2 c10
          refine ev_ldcw dX8_cut_30 co_8_281 ?_
          exact ev_ireturn dX8_cut_33 rfl True.intro rfl rfl ⟨rfl, h12⟩
theorem sg_X8_cut_60 {G : GW} {K : Option Value → Mem → Prop} {μ : Mem} {α : Mem} (hf : WF α) {x1 x2 x4 x5 : Int32}  (h : (VM α μ) ∧ ∀ (z3 : Int32) (μ4 : Mem), (z3 = ridA α (allA α) ∧ onlyM 99 105 μ μ4) → (vp_in x1 7 ∧ vp_in x2 7) ∧ K (some (.int (x4 - z3))) (walkN μ4 x1.toNatClampNeg x2.toNatClampNeg x5)) : Ev2 G mX8_cut 8 60 [(0, .ref 82), (1, .int x1), (2, .int x2), (4, .int x4), (5, .int x5)] [] μ K := by
  refine ev_aload_n dX8_cut_60 0 rfl (by decide) ?_
  have p1 := h.1
  have h2 := h.2
  refine e2_callVr (Rl := fun z3 μ4 => z3 = ridA α (allA α) ∧ onlyM 99 105 μ μ4) (a := 82) (as := []) (st := []) ok_X8_all vi_X8_all ml_8_278 hcl_8 kd_82 dX8_cut_61 rfl rfl (Nat.le_of_ble_eq_true rfl) (Nat.le_of_ble_eq_true rfl) (by decide) (ct_X8_all hf μ p1) (fun z3 μ4 r5 => ?_)
  have h6 := h2 z3 μ4 r5
  refine ev_istore (lv' := [(0, .ref 82), (1, .int x1), (2, .int x2), (4, .int x4), (5, .int x5), (6, .int z3)]) dX8_cut_64 (by decide) [1, 2, 3, 4, 5, 0] rfl ?_
  refine ev_aload_n dX8_cut_66 0 rfl (by decide) ?_
  refine ev_iload_n dX8_cut_67 1 rfl ?_
  refine ev_iload_n dX8_cut_68 2 rfl ?_
  refine ev_iload dX8_cut_69 4 rfl ?_
  have p7 := h6.1
  have h8 := h6.2
  refine e2_callVv (μ1 := (walkN μ4 x1.toNatClampNeg x2.toNatClampNeg x5)) (a := 82) (as := [.int x1, .int x2, .int x5]) (st := []) ok_X8_walkIs vi_X8_walkIs ml_8_22 hcl_8 kd_82 dX8_cut_71 rfl rfl (Nat.le_of_ble_eq_true rfl) (Nat.le_of_ble_eq_true rfl) (by decide) (ct_X8_walkIs (x1) (x2) (x5) μ4 p7) ?_
  refine ev_iload dX8_cut_74 3 rfl ?_
  refine ev_iload dX8_cut_76 5 rfl ?_
  refine ev_isub dX8_cut_78 ?_
  exact ev_ireturn dX8_cut_79 rfl True.intro rfl rfl ⟨rfl, h8⟩
theorem pb_X8_cut {G : GW} {α μ : Mem} (hf : WF α) (h : VM α μ) (x1 x2 x3 : Int32) : pubM G mX8_cut 8 [(0, .ref 82), (1, .int x1), (2, .int x2), (3, .int x3)] α μ (.int (sp_cut α x1 x2 x3)) α := by
  have hk := keepX.rf μ
  unfold sp_cut
  have no : wayB x1 x2 = false → (some (Value.int (-1000000)) = some (Value.int (if wayB x1 x2 = true then (if inB x3 1 999 = true then ridA α (allA α) - ridA (walkA α x1.toNatClampNeg x2.toNatClampNeg x3) (allA α) else -1000000) else -1000000)) ∧ VM α μ ∧ keepX μ μ) := fun c => by
    rw [if_neg (by rw [c]; decide)]
    exact ⟨rfl, h, hk⟩
  refine sg_X8_cut_0 hf ⟨fun c => no (by simp [wayB, c]), fun c1 => ⟨fun c => no (by simp [wayB, c]), fun c2 => ⟨fun c => no (by simp [wayB, c]), fun c3 => ⟨fun d => ?_, fun d => ?_⟩⟩⟩⟩
  · have cw : wayB x1 x2 = true := by simp [wayB, c1, c2, c3]
    rw [if_pos cw, if_pos d]
    refine ⟨h, fun z ν hz => ?_⟩
    obtain ⟨a, b, ha, hb, hab, rfl, rfl⟩ := wayB_t cw
    obtain ⟨w, hw1, hw2, rfl⟩ := inB_mid (lo := 1) (hi := 999) (by omega) (by omega) d
    obtain ⟨ez, ho⟩ := hz
    obtain ⟨h1, k1⟩ := h.o hf ho
    obtain ⟨q1, q2⟩ := ix_7 ha hb
    have vv : vp_in (nI a) 7 ∧ vp_in (nI b) 7 := ⟨vp_nI ha (by omega), vp_nI hb (by omega)⟩
    refine ⟨q1, fun y hy => ⟨vv, ?_⟩⟩
    rw [q2, h1.2.1 _ (by omega)] at hy
    rw [ix_nI (i := a) (by omega), ix_nI (i := b) (by omega)]
    have hf2 := wf_walkA hf ha hb (w := w) ⟨hw1, hw2⟩
    obtain ⟨h2, k2⟩ := vm_walk h1 (a := a) (b := b) (nI w)
    have ea : allA (walkA α a b (nI w)) = allA α := by unfold allA; rw [walkA_row (by omega)]
    refine sg_X8_cut_60 hf2 ⟨h2, fun z2 ξ hz2 => ⟨vv, ?_⟩⟩
    obtain ⟨ez2, ho2⟩ := hz2
    obtain ⟨h3, k3⟩ := h2.o hf2 ho2
    rw [ix_nI (i := a) (by omega), ix_nI (i := b) (by omega)]
    obtain ⟨h4, k4⟩ := vm_walk h3 (a := a) (b := b) y
    rw [hy, walk_back hf ha hb hab, ← hy] at h4
    rw [ea] at ez2
    exact ⟨by rw [ez, ez2], h4, ((k1.tr k2).tr k3).tr k4⟩
  · rw [if_pos (by simp [wayB, c1, c2, c3]), if_neg (by rw [d]; decide)]
    exact ⟨rfl, h, hk⟩
