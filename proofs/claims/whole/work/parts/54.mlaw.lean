/-! ===== the reference: what a part of the law says of a horse ===== -/
theorem sg_X8_worthOf_0 {G : GW} {K : Option Value → Mem → Prop} {μ : Mem} {α : Mem} (hf : WF α) {x1 x2 : Int32}  (h : (vp_in x2 8) ∧ (vp_in x2 8) ∧ (vp_in x2 8) ∧ (vp_in x2 8) ∧ (vp_in x2 8) ∧ (vp_in x2 8) ∧ (vp_in x2 8) ∧ (vp_in ((7 * (μ 87 x2.toNatClampNeg)) + (μ 88 x2.toNatClampNeg)) 49) ∧ Ev2 G mX8_worthOf 2 102 [(0, .ref 82), (1, .int x1), (3, .int ((3 * (μ 82 14)) + x1)), (4, .int 0), (5, .int 0)] [] (mset (mset (mset (mset (mset (mset μ 100 0 (μ 89 x2.toNatClampNeg)) 100 1 (μ 90 x2.toNatClampNeg)) 100 2 (μ 87 x2.toNatClampNeg)) 100 3 (μ 88 x2.toNatClampNeg)) 100 4 (μ 91 x2.toNatClampNeg)) 100 5 (μ 83 ((7 * (μ 87 x2.toNatClampNeg)) + (μ 88 x2.toNatClampNeg)).toNatClampNeg)) K) : Ev2 G mX8_worthOf 2 0 [(0, .ref 82), (1, .int x1), (2, .int x2)] [] μ K := by
  refine ev_aload_n dX8_worthOf_0 0 rfl (by decide) ?_
  refine ev_getR' fl_8_198 rfl kd_82 rf_82_31 dX8_worthOf_1 ?_
  refine ev_iconst (v := 0) dX8_worthOf_4 rfl ?_
  refine ev_aload_n dX8_worthOf_5 0 rfl (by decide) ?_
  refine ev_getR' fl_8_44 rfl kd_82 rf_82_8 dX8_worthOf_6 ?_
  refine ev_iload_n dX8_worthOf_9 2 rfl ?_
  have p1 := h.1
  have h2 := h.2
  refine ev_iaload' (v := (μ 89 x2.toNatClampNeg)) kd_89 ln_89 p1 rfl dX8_worthOf_10 ?_
  refine ev_iastore' (j := 0) kd_100 ln_100 (vp_c ⟨rfl, rfl⟩) rfl dX8_worthOf_11 ?_
  refine ev_aload_n dX8_worthOf_12 0 rfl (by decide) ?_
  refine ev_getR' fl_8_198 rfl kd_82 rf_82_31 dX8_worthOf_13 ?_
  refine ev_iconst (v := 1) dX8_worthOf_16 rfl ?_
  refine ev_aload_n dX8_worthOf_17 0 rfl (by decide) ?_
  refine ev_getR' fl_8_47 rfl kd_82 rf_82_9 dX8_worthOf_18 ?_
  refine ev_iload_n dX8_worthOf_21 2 rfl ?_
  have p3 := h2.1
  have h4 := h2.2
  refine ev_iaload' (v := (μ 90 x2.toNatClampNeg)) kd_90 ln_90 p3 rfl dX8_worthOf_22 ?_
  refine ev_iastore' (j := 1) kd_100 ln_100 (vp_c ⟨rfl, rfl⟩) rfl dX8_worthOf_23 ?_
  refine ev_aload_n dX8_worthOf_24 0 rfl (by decide) ?_
  refine ev_getR' fl_8_198 rfl kd_82 rf_82_31 dX8_worthOf_25 ?_
  refine ev_iconst (v := 2) dX8_worthOf_28 rfl ?_
  refine ev_aload_n dX8_worthOf_29 0 rfl (by decide) ?_
  refine ev_getR' fl_8_38 rfl kd_82 rf_82_6 dX8_worthOf_30 ?_
  refine ev_iload_n dX8_worthOf_33 2 rfl ?_
  have p5 := h4.1
  have h6 := h4.2
  refine ev_iaload' (v := (μ 87 x2.toNatClampNeg)) kd_87 ln_87 p5 rfl dX8_worthOf_34 ?_
  refine ev_iastore' (j := 2) kd_100 ln_100 (vp_c ⟨rfl, rfl⟩) rfl dX8_worthOf_35 ?_
  refine ev_aload_n dX8_worthOf_36 0 rfl (by decide) ?_
  refine ev_getR' fl_8_198 rfl kd_82 rf_82_31 dX8_worthOf_37 ?_
  refine ev_iconst (v := 3) dX8_worthOf_40 rfl ?_
  refine ev_aload_n dX8_worthOf_41 0 rfl (by decide) ?_
  refine ev_getR' fl_8_41 rfl kd_82 rf_82_7 dX8_worthOf_42 ?_
  refine ev_iload_n dX8_worthOf_45 2 rfl ?_
  have p7 := h6.1
  have h8 := h6.2
  refine ev_iaload' (v := (μ 88 x2.toNatClampNeg)) kd_88 ln_88 p7 rfl dX8_worthOf_46 ?_
  refine ev_iastore' (j := 3) kd_100 ln_100 (vp_c ⟨rfl, rfl⟩) rfl dX8_worthOf_47 ?_
  refine ev_aload_n dX8_worthOf_48 0 rfl (by decide) ?_
  refine ev_getR' fl_8_198 rfl kd_82 rf_82_31 dX8_worthOf_49 ?_
  refine ev_iconst (v := 4) dX8_worthOf_52 rfl ?_
  refine ev_aload_n dX8_worthOf_53 0 rfl (by decide) ?_
  refine ev_getR' fl_8_50 rfl kd_82 rf_82_10 dX8_worthOf_54 ?_
  refine ev_iload_n dX8_worthOf_57 2 rfl ?_
  have p9 := h8.1
  have h10 := h8.2
  refine ev_iaload' (v := (μ 91 x2.toNatClampNeg)) kd_91 ln_91 p9 rfl dX8_worthOf_58 ?_
  refine ev_iastore' (j := 4) kd_100 ln_100 (vp_c ⟨rfl, rfl⟩) rfl dX8_worthOf_59 ?_
  refine ev_aload_n dX8_worthOf_60 0 rfl (by decide) ?_
  refine ev_getR' fl_8_198 rfl kd_82 rf_82_31 dX8_worthOf_61 ?_
  refine ev_iconst (v := 5) dX8_worthOf_64 rfl ?_
  refine ev_aload_n dX8_worthOf_65 0 rfl (by decide) ?_
  refine ev_getR' fl_8_14 rfl kd_82 rf_82_0 dX8_worthOf_66 ?_
  refine ev_bipush (v := 7) dX8_worthOf_69 rfl ?_
  refine ev_aload_n dX8_worthOf_71 0 rfl (by decide) ?_
  refine ev_getR' fl_8_38 rfl kd_82 rf_82_6 dX8_worthOf_72 ?_
  refine ev_iload_n dX8_worthOf_75 2 rfl ?_
  have p11 := h10.1
  have h12 := h10.2
  refine ev_iaload' (v := (μ 87 x2.toNatClampNeg)) kd_87 ln_87 p11 rfl dX8_worthOf_76 ?_
  refine ev_imul dX8_worthOf_77 ?_
  refine ev_aload_n dX8_worthOf_78 0 rfl (by decide) ?_
  refine ev_getR' fl_8_41 rfl kd_82 rf_82_7 dX8_worthOf_79 ?_
  refine ev_iload_n dX8_worthOf_82 2 rfl ?_
  have p13 := h12.1
  have h14 := h12.2
  refine ev_iaload' (v := (μ 88 x2.toNatClampNeg)) kd_88 ln_88 p13 rfl dX8_worthOf_83 ?_
  refine ev_iadd dX8_worthOf_84 ?_
  have p15 := h14.1
  have h16 := h14.2
  refine ev_iaload' (v := (μ 83 ((7 * (μ 87 x2.toNatClampNeg)) + (μ 88 x2.toNatClampNeg)).toNatClampNeg)) kd_83 ln_83 p15 rfl dX8_worthOf_85 ?_
  refine ev_iastore' (j := 5) kd_100 ln_100 (vp_c ⟨rfl, rfl⟩) rfl dX8_worthOf_86 ?_
  refine ev_iconst (v := 3) dX8_worthOf_87 rfl ?_
  refine ev_aload_n dX8_worthOf_88 0 rfl (by decide) ?_
  refine ev_getI' (v := (μ 82 14)) fl_8_187 rfl kd_82 rfl dX8_worthOf_89 ?_
  refine ev_imul dX8_worthOf_92 ?_
  refine ev_iload_n dX8_worthOf_93 1 rfl ?_
  refine ev_iadd dX8_worthOf_94 ?_
  refine ev_istore_n (lv' := [(0, .ref 82), (1, .int x1), (2, .int x2), (3, .int ((3 * (μ 82 14)) + x1))]) dX8_worthOf_95 (by decide) [1, 2, 3, 0] rfl ?_
  refine ev_iconst (v := 0) dX8_worthOf_96 rfl ?_
  refine ev_istore (lv' := [(0, .ref 82), (1, .int x1), (2, .int x2), (3, .int ((3 * (μ 82 14)) + x1)), (4, .int 0)]) dX8_worthOf_97 (by decide) [1, 2, 3, 4, 0] rfl ?_
  refine ev_iconst (v := 0) dX8_worthOf_99 rfl ?_
  refine ev_istore (lv' := [(0, .ref 82), (1, .int x1), (2, .int x2), (3, .int ((3 * (μ 82 14)) + x1)), (4, .int 0), (5, .int 0)]) dX8_worthOf_100 (by decide) [1, 2, 3, 4, 5, 0] rfl ?_
  refine EvW.less [0, 1, 3, 4, 5] (lv' := [(0, .ref 82), (1, .int x1), (3, .int ((3 * (μ 82 14)) + x1)), (4, .int 0), (5, .int 0)]) rfl ?_
  exact h16
theorem sg_X8_worthOf_102 {G : GW} {K : Option Value → Mem → Prop} {μ : Mem} {α : Mem} (hf : WF α) {x1 x3 x4 x5 : Int32}  (h : (vp_in x3 18) ∧ (((μ 94 x3.toNatClampNeg) ≤ x5) → ((¬ x1 = 2) → ((¬ x1 = 2) → K (some (.int (imax 1 (imin 999 (μ 99 0))))) μ) ∧ ((x1 = 2) → K (some (.int (imax 1 (imin 100 (μ 99 0))))) μ)) ∧ ((x1 = 2) → ((¬ x1 = 2) → K (some (.int (imax 0 (imin 999 (μ 99 0))))) μ) ∧ ((x1 = 2) → K (some (.int (imax 0 (imin 100 (μ 99 0))))) μ))) ∧ ((¬ ((μ 94 x3.toNatClampNeg) ≤ x5)) → (vp_in ((160 * x3) + x5) 2880) ∧ ∀ y17 : Int32, y17 = (μ 93 ((160 * x3) + x5).toNatClampNeg) → ((0 ≤ y17) → ((6 ≤ y17) → ((¬ y17 = 12) → ((¬ y17 = 18) → (vp_in ((x4 + (-1)) - 1) 170) ∧ (vp_in (x4 + (-1)) 170) ∧ (vp_in ((x4 + (-1)) - 1) 170) ∧ Ev2 G mX8_worthOf 2 102 [(0, .ref 82), (1, .int x1), (3, .int x3), (4, .int (x4 + (-1))), (5, .int (x5 + 1))] [] (mset μ 99 ((x4 + (-1)) - 1).toNatClampNeg (doneF y17 (μ 99 ((x4 + (-1)) - 1).toNatClampNeg) (μ 99 (x4 + (-1)).toNatClampNeg))) K) ∧ ((y17 = 18) → (vp_in (x4 - 1) 170) ∧ (vp_in (x4 - 1) 170) ∧ Ev2 G mX8_worthOf 2 102 [(0, .ref 82), (1, .int x1), (3, .int x3), (4, .int x4), (5, .int (x5 + 1))] [] (mset μ 99 (x4 - 1).toNatClampNeg (-(μ 99 (x4 - 1).toNatClampNeg))) K)) ∧ ((y17 = 12) → (vp_in (x4 - 1) 170) ∧ ((¬ (μ 99 (x4 - 1).toNatClampNeg) = 0) → (vp_in (x4 - 1) 170) ∧ Ev2 G mX8_worthOf 2 102 [(0, .ref 82), (1, .int x1), (3, .int x3), (4, .int x4), (5, .int (x5 + 1))] [] (mset μ 99 (x4 - 1).toNatClampNeg 0) K) ∧ (((μ 99 (x4 - 1).toNatClampNeg) = 0) → (vp_in (x4 - 1) 170) ∧ Ev2 G mX8_worthOf 2 102 [(0, .ref 82), (1, .int x1), (3, .int x3), (4, .int x4), (5, .int (x5 + 1))] [] (mset μ 99 (x4 - 1).toNatClampNeg 1) K))) ∧ ((¬ (6 ≤ y17)) → (vp_in y17 6) ∧ (vp_in x4 170) ∧ Ev2 G mX8_worthOf 2 102 [(0, .ref 82), (1, .int x1), (3, .int x3), (4, .int (x4 + 1)), (5, .int (x5 + 1))] [] (mset μ 99 x4.toNatClampNeg (μ 100 y17.toNatClampNeg)) K)) ∧ ((¬ (0 ≤ y17)) → (vp_in x4 170) ∧ Ev2 G mX8_worthOf 2 102 [(0, .ref 82), (1, .int x1), (3, .int x3), (4, .int (x4 + 1)), (5, .int (x5 + 1))] [] (mset μ 99 x4.toNatClampNeg ((-1) - y17)) K))) : Ev2 G mX8_worthOf 2 102 [(0, .ref 82), (1, .int x1), (3, .int x3), (4, .int x4), (5, .int x5)] [] μ K := by
  refine ev_iload dX8_worthOf_102 4 rfl ?_
  refine ev_aload_n dX8_worthOf_104 0 rfl (by decide) ?_
  refine ev_getR' fl_8_165 rfl kd_82 rf_82_16 dX8_worthOf_105 ?_
  refine ev_iload_n dX8_worthOf_108 2 rfl ?_
  have p1 := h.1
  have h2 := h.2
  refine ev_iaload' (v := (μ 94 x3.toNatClampNeg)) kd_94 ln_94 p1 rfl dX8_worthOf_109 ?_
  refine ev_icmp_ge (tgt := 281) dX8_worthOf_110 rfl (fun c3 => ?_) (fun c3 => ?_)
  · have h4 := h2.1 c3
    refine ev_iload_n dX8_worthOf_281 1 rfl ?_
    refine ev_iconst (v := 2) dX8_worthOf_282 rfl ?_
    refine ev_icmp_ne (tgt := 290) dX8_worthOf_283 rfl (fun c6 => ?_) (fun c6 => ?_)
    · have h7 := h4.1 c6
      refine ev_iconst (v := 1) dX8_worthOf_290 rfl ?_
      refine ev_istore (lv' := [(0, .ref 82), (1, .int x1), (3, .int x3), (4, .int x4), (5, .int 1)]) dX8_worthOf_291 (by decide) [1, 2, 3, 4, 0] rfl ?_
      refine ev_iload_n dX8_worthOf_293 1 rfl ?_
      refine ev_iconst (v := 2) dX8_worthOf_294 rfl ?_
      refine ev_icmp_ne (tgt := 303) dX8_worthOf_295 rfl (fun c9 => ?_) (fun c9 => ?_)
      · have h10 := h7.1 c9
        refine ev_sipush (v := 999) dX8_worthOf_303 rfl ?_
        refine ev_istore (lv' := [(0, .ref 82), (1, .int x1), (3, .int x3), (4, .int x4), (5, .int 1), (6, .int 999)]) dX8_worthOf_306 (by decide) [1, 2, 3, 4, 5, 0] rfl ?_
        refine ev_iload dX8_worthOf_308 4 rfl ?_
        refine ev_iload dX8_worthOf_310 5 rfl ?_
        refine ev_aload_n dX8_worthOf_312 0 rfl (by decide) ?_
        refine ev_getR' fl_8_195 rfl kd_82 rf_82_30 dX8_worthOf_313 ?_
        refine ev_iconst (v := 0) dX8_worthOf_316 rfl ?_
        refine ev_iaload' (v := (μ 99 0)) kd_99 ln_99 (vp_c ⟨rfl, rfl⟩) rfl dX8_worthOf_317 ?_
        refine ev_min ml_8_244 dX8_worthOf_318 (Nat.le_of_ble_eq_true rfl) (by decide) ⟨Nat.le_refl _, Nat.le_refl _⟩ ?_
        refine ev_max ml_8_64 dX8_worthOf_321 (Nat.le_of_ble_eq_true rfl) (by decide) ⟨Nat.le_refl _, Nat.le_refl _⟩ ?_
        exact ev_ireturn dX8_worthOf_324 rfl True.intro rfl rfl ⟨rfl, h10⟩
      · have h11 := h7.2 c9
        refine ev_bipush (v := 100) dX8_worthOf_298 rfl ?_
        refine ev_goto (tgt := 306) dX8_worthOf_300 rfl ?_
        refine ev_istore (lv' := [(0, .ref 82), (1, .int x1), (3, .int x3), (4, .int x4), (5, .int 1), (6, .int 100)]) dX8_worthOf_306 (by decide) [1, 2, 3, 4, 5, 0] rfl ?_
        refine ev_iload dX8_worthOf_308 4 rfl ?_
        refine ev_iload dX8_worthOf_310 5 rfl ?_
        refine ev_aload_n dX8_worthOf_312 0 rfl (by decide) ?_
        refine ev_getR' fl_8_195 rfl kd_82 rf_82_30 dX8_worthOf_313 ?_
        refine ev_iconst (v := 0) dX8_worthOf_316 rfl ?_
        refine ev_iaload' (v := (μ 99 0)) kd_99 ln_99 (vp_c ⟨rfl, rfl⟩) rfl dX8_worthOf_317 ?_
        refine ev_min ml_8_244 dX8_worthOf_318 (Nat.le_of_ble_eq_true rfl) (by decide) ⟨Nat.le_refl _, Nat.le_refl _⟩ ?_
        refine ev_max ml_8_64 dX8_worthOf_321 (Nat.le_of_ble_eq_true rfl) (by decide) ⟨Nat.le_refl _, Nat.le_refl _⟩ ?_
        exact ev_ireturn dX8_worthOf_324 rfl True.intro rfl rfl ⟨rfl, h11⟩
    · have h8 := h4.2 c6
      refine ev_iconst (v := 0) dX8_worthOf_286 rfl ?_
      refine ev_goto (tgt := 291) dX8_worthOf_287 rfl ?_
      refine ev_istore (lv' := [(0, .ref 82), (1, .int x1), (3, .int x3), (4, .int x4), (5, .int 0)]) dX8_worthOf_291 (by decide) [1, 2, 3, 4, 0] rfl ?_
      refine ev_iload_n dX8_worthOf_293 1 rfl ?_
      refine ev_iconst (v := 2) dX8_worthOf_294 rfl ?_
      refine ev_icmp_ne (tgt := 303) dX8_worthOf_295 rfl (fun c12 => ?_) (fun c12 => ?_)
      · have h13 := h8.1 c12
        refine ev_sipush (v := 999) dX8_worthOf_303 rfl ?_
        refine ev_istore (lv' := [(0, .ref 82), (1, .int x1), (3, .int x3), (4, .int x4), (5, .int 0), (6, .int 999)]) dX8_worthOf_306 (by decide) [1, 2, 3, 4, 5, 0] rfl ?_
        refine ev_iload dX8_worthOf_308 4 rfl ?_
        refine ev_iload dX8_worthOf_310 5 rfl ?_
        refine ev_aload_n dX8_worthOf_312 0 rfl (by decide) ?_
        refine ev_getR' fl_8_195 rfl kd_82 rf_82_30 dX8_worthOf_313 ?_
        refine ev_iconst (v := 0) dX8_worthOf_316 rfl ?_
        refine ev_iaload' (v := (μ 99 0)) kd_99 ln_99 (vp_c ⟨rfl, rfl⟩) rfl dX8_worthOf_317 ?_
        refine ev_min ml_8_244 dX8_worthOf_318 (Nat.le_of_ble_eq_true rfl) (by decide) ⟨Nat.le_refl _, Nat.le_refl _⟩ ?_
        refine ev_max ml_8_64 dX8_worthOf_321 (Nat.le_of_ble_eq_true rfl) (by decide) ⟨Nat.le_refl _, Nat.le_refl _⟩ ?_
        exact ev_ireturn dX8_worthOf_324 rfl True.intro rfl rfl ⟨rfl, h13⟩
      · have h14 := h8.2 c12
        refine ev_bipush (v := 100) dX8_worthOf_298 rfl ?_
        refine ev_goto (tgt := 306) dX8_worthOf_300 rfl ?_
        refine ev_istore (lv' := [(0, .ref 82), (1, .int x1), (3, .int x3), (4, .int x4), (5, .int 0), (6, .int 100)]) dX8_worthOf_306 (by decide) [1, 2, 3, 4, 5, 0] rfl ?_
        refine ev_iload dX8_worthOf_308 4 rfl ?_
        refine ev_iload dX8_worthOf_310 5 rfl ?_
        refine ev_aload_n dX8_worthOf_312 0 rfl (by decide) ?_
        refine ev_getR' fl_8_195 rfl kd_82 rf_82_30 dX8_worthOf_313 ?_
        refine ev_iconst (v := 0) dX8_worthOf_316 rfl ?_
        refine ev_iaload' (v := (μ 99 0)) kd_99 ln_99 (vp_c ⟨rfl, rfl⟩) rfl dX8_worthOf_317 ?_
        refine ev_min ml_8_244 dX8_worthOf_318 (Nat.le_of_ble_eq_true rfl) (by decide) ⟨Nat.le_refl _, Nat.le_refl _⟩ ?_
        refine ev_max ml_8_64 dX8_worthOf_321 (Nat.le_of_ble_eq_true rfl) (by decide) ⟨Nat.le_refl _, Nat.le_refl _⟩ ?_
        exact ev_ireturn dX8_worthOf_324 rfl True.intro rfl rfl ⟨rfl, h14⟩
  · have h5 := h2.2 c3
    refine ev_aload_n dX8_worthOf_113 0 rfl (by decide) ?_
    refine ev_getR' fl_8_117 rfl kd_82 rf_82_15 dX8_worthOf_114 ?_
    refine ev_sipush (v := 160) dX8_worthOf_117 rfl ?_
    refine ev_iload_n dX8_worthOf_120 2 rfl ?_
    refine ev_imul dX8_worthOf_121 ?_
    refine ev_iload dX8_worthOf_122 4 rfl ?_
    refine ev_iadd dX8_worthOf_124 ?_
    have p15 := h5.1
    have h16 := h5.2
    refine ev_iaload' (v := (μ 93 ((160 * x3) + x5).toNatClampNeg)) kd_93 ln_93 p15 rfl dX8_worthOf_125 ?_
    refine ev_top (fun y17 ey17 => ?_)
    have h18 := h16 y17 ey17
    refine ev_istore (lv' := [(0, .ref 82), (1, .int x1), (3, .int x3), (4, .int x4), (5, .int x5), (6, .int y17)]) dX8_worthOf_126 (by decide) [1, 2, 3, 4, 5, 0] rfl ?_
    refine ev_iload dX8_worthOf_128 5 rfl ?_
    refine ev_if_ge (tgt := 150) dX8_worthOf_130 rfl (fun c19 => ?_) (fun c19 => ?_)
    · have h20 := h18.1 c19
      refine ev_iload dX8_worthOf_150 5 rfl ?_
      refine ev_bipush (v := 6) dX8_worthOf_152 rfl ?_
      refine ev_icmp_ge (tgt := 177) dX8_worthOf_154 rfl (fun c22 => ?_) (fun c22 => ?_)
      · have h23 := h20.1 c22
        refine ev_iload dX8_worthOf_177 5 rfl ?_
        refine ev_bipush (v := 12) dX8_worthOf_179 rfl ?_
        refine ev_icmp_ne (tgt := 213) dX8_worthOf_181 rfl (fun c25 => ?_) (fun c25 => ?_)
        · have h26 := h23.1 c25
          refine ev_iload dX8_worthOf_213 5 rfl ?_
          refine ev_bipush (v := 18) dX8_worthOf_215 rfl ?_
          refine ev_icmp_ne (tgt := 242) dX8_worthOf_217 rfl (fun c28 => ?_) (fun c28 => ?_)
          · have h29 := h26.1 c28
            refine ev_iinc (v := (x4 + (-1))) (lv' := [(0, .ref 82), (1, .int x1), (3, .int x3), (4, .int (x4 + (-1))), (5, .int x5), (6, .int y17)]) dX8_worthOf_242 3 rfl rfl (by decide) [1, 2, 3, 0, 4, 5] rfl ?_
            refine ev_aload_n dX8_worthOf_245 0 rfl (by decide) ?_
            refine ev_getR' fl_8_195 rfl kd_82 rf_82_30 dX8_worthOf_246 ?_
            refine ev_iload dX8_worthOf_249 3 rfl ?_
            refine ev_iconst (v := 1) dX8_worthOf_251 rfl ?_
            refine ev_isub dX8_worthOf_252 ?_
            refine ev_iload dX8_worthOf_253 5 rfl ?_
            refine ev_aload_n dX8_worthOf_255 0 rfl (by decide) ?_
            refine ev_getR' fl_8_195 rfl kd_82 rf_82_30 dX8_worthOf_256 ?_
            refine ev_iload dX8_worthOf_259 3 rfl ?_
            refine ev_iconst (v := 1) dX8_worthOf_261 rfl ?_
            refine ev_isub dX8_worthOf_262 ?_
            have p31 := h29.1
            have h32 := h29.2
            refine ev_iaload' (v := (μ 99 ((x4 + (-1)) - 1).toNatClampNeg)) kd_99 ln_99 p31 rfl dX8_worthOf_263 ?_
            refine ev_aload_n dX8_worthOf_264 0 rfl (by decide) ?_
            refine ev_getR' fl_8_195 rfl kd_82 rf_82_30 dX8_worthOf_265 ?_
            refine ev_iload dX8_worthOf_268 3 rfl ?_
            have p33 := h32.1
            have h34 := h32.2
            refine ev_iaload' (v := (μ 99 (x4 + (-1)).toNatClampNeg)) kd_99 ln_99 p33 rfl dX8_worthOf_270 ?_
            refine e2_callS (w := .int (doneF y17 (μ 99 ((x4 + (-1)) - 1).toNatClampNeg) (μ 99 (x4 + (-1)).toNatClampNeg))) (μ1 := μ) (as := [.int y17, .int (μ 99 ((x4 + (-1)) - 1).toNatClampNeg), .int (μ 99 (x4 + (-1)).toNatClampNeg)]) (st := [.int ((x4 + (-1)) - 1), .ref 99]) ok_X8_done sv_X8_done ml_8_240 dX8_worthOf_271 rfl rfl (Nat.le_of_ble_eq_true rfl) (Nat.le_of_ble_eq_true rfl) (by decide) (ct_X8_done (y17) ((μ 99 ((x4 + (-1)) - 1).toNatClampNeg)) ((μ 99 (x4 + (-1)).toNatClampNeg)) μ) ?_
            have p35 := h34.1
            have h36 := h34.2
            refine ev_iastore' (j := ((x4 + (-1)) - 1).toNatClampNeg) kd_99 ln_99 p35 rfl dX8_worthOf_274 ?_
            refine ev_iinc (v := (x5 + 1)) (lv' := [(0, .ref 82), (1, .int x1), (3, .int x3), (4, .int (x4 + (-1))), (5, .int (x5 + 1)), (6, .int y17)]) dX8_worthOf_275 4 rfl rfl (by decide) [1, 2, 3, 4, 0, 5] rfl ?_
            refine ev_goto (tgt := 102) dX8_worthOf_278 rfl ?_
            refine EvW.less [0, 1, 2, 3, 4] (lv' := [(0, .ref 82), (1, .int x1), (3, .int x3), (4, .int (x4 + (-1))), (5, .int (x5 + 1))]) rfl ?_
            exact h36
          · have h30 := h26.2 c28
            refine ev_aload_n dX8_worthOf_220 0 rfl (by decide) ?_
            refine ev_getR' fl_8_195 rfl kd_82 rf_82_30 dX8_worthOf_221 ?_
            refine ev_iload dX8_worthOf_224 3 rfl ?_
            refine ev_iconst (v := 1) dX8_worthOf_226 rfl ?_
            refine ev_isub dX8_worthOf_227 ?_
            refine ev_aload_n dX8_worthOf_228 0 rfl (by decide) ?_
            refine ev_getR' fl_8_195 rfl kd_82 rf_82_30 dX8_worthOf_229 ?_
            refine ev_iload dX8_worthOf_232 3 rfl ?_
            refine ev_iconst (v := 1) dX8_worthOf_234 rfl ?_
            refine ev_isub dX8_worthOf_235 ?_
            have p37 := h30.1
            have h38 := h30.2
            refine ev_iaload' (v := (μ 99 (x4 - 1).toNatClampNeg)) kd_99 ln_99 p37 rfl dX8_worthOf_236 ?_
            refine ev_ineg dX8_worthOf_237 ?_
            have p39 := h38.1
            have h40 := h38.2
            refine ev_iastore' (j := (x4 - 1).toNatClampNeg) kd_99 ln_99 p39 rfl dX8_worthOf_238 ?_
            refine ev_goto (tgt := 275) dX8_worthOf_239 rfl ?_
            refine ev_iinc (v := (x5 + 1)) (lv' := [(0, .ref 82), (1, .int x1), (3, .int x3), (4, .int x4), (5, .int (x5 + 1)), (6, .int y17)]) dX8_worthOf_275 4 rfl rfl (by decide) [1, 2, 3, 4, 0, 5] rfl ?_
            refine ev_goto (tgt := 102) dX8_worthOf_278 rfl ?_
            refine EvW.less [0, 1, 2, 3, 4] (lv' := [(0, .ref 82), (1, .int x1), (3, .int x3), (4, .int x4), (5, .int (x5 + 1))]) rfl ?_
            exact h40
        · have h27 := h23.2 c25
          refine ev_aload_n dX8_worthOf_184 0 rfl (by decide) ?_
          refine ev_getR' fl_8_195 rfl kd_82 rf_82_30 dX8_worthOf_185 ?_
          refine ev_iload dX8_worthOf_188 3 rfl ?_
          refine ev_iconst (v := 1) dX8_worthOf_190 rfl ?_
          refine ev_isub dX8_worthOf_191 ?_
          refine ev_aload_n dX8_worthOf_192 0 rfl (by decide) ?_
          refine ev_getR' fl_8_195 rfl kd_82 rf_82_30 dX8_worthOf_193 ?_
          refine ev_iload dX8_worthOf_196 3 rfl ?_
          refine ev_iconst (v := 1) dX8_worthOf_198 rfl ?_
          refine ev_isub dX8_worthOf_199 ?_
          have p41 := h27.1
          have h42 := h27.2
          refine ev_iaload' (v := (μ 99 (x4 - 1).toNatClampNeg)) kd_99 ln_99 p41 rfl dX8_worthOf_200 ?_
          refine ev_if_ne (tgt := 208) dX8_worthOf_201 rfl (fun c43 => ?_) (fun c43 => ?_)
          · have h44 := h42.1 c43
            refine ev_iconst (v := 0) dX8_worthOf_208 rfl ?_
            have p46 := h44.1
            have h47 := h44.2
            refine ev_iastore' (j := (x4 - 1).toNatClampNeg) kd_99 ln_99 p46 rfl dX8_worthOf_209 ?_
            refine ev_goto (tgt := 275) dX8_worthOf_210 rfl ?_
            refine ev_iinc (v := (x5 + 1)) (lv' := [(0, .ref 82), (1, .int x1), (3, .int x3), (4, .int x4), (5, .int (x5 + 1)), (6, .int y17)]) dX8_worthOf_275 4 rfl rfl (by decide) [1, 2, 3, 4, 0, 5] rfl ?_
            refine ev_goto (tgt := 102) dX8_worthOf_278 rfl ?_
            refine EvW.less [0, 1, 2, 3, 4] (lv' := [(0, .ref 82), (1, .int x1), (3, .int x3), (4, .int x4), (5, .int (x5 + 1))]) rfl ?_
            exact h47
          · have h45 := h42.2 c43
            refine ev_iconst (v := 1) dX8_worthOf_204 rfl ?_
            refine ev_goto (tgt := 209) dX8_worthOf_205 rfl ?_
            have p48 := h45.1
            have h49 := h45.2
            refine ev_iastore' (j := (x4 - 1).toNatClampNeg) kd_99 ln_99 p48 rfl dX8_worthOf_209 ?_
            refine ev_goto (tgt := 275) dX8_worthOf_210 rfl ?_
            refine ev_iinc (v := (x5 + 1)) (lv' := [(0, .ref 82), (1, .int x1), (3, .int x3), (4, .int x4), (5, .int (x5 + 1)), (6, .int y17)]) dX8_worthOf_275 4 rfl rfl (by decide) [1, 2, 3, 4, 0, 5] rfl ?_
            refine ev_goto (tgt := 102) dX8_worthOf_278 rfl ?_
            refine EvW.less [0, 1, 2, 3, 4] (lv' := [(0, .ref 82), (1, .int x1), (3, .int x3), (4, .int x4), (5, .int (x5 + 1))]) rfl ?_
            exact h49
      · have h24 := h20.2 c22
        refine ev_aload_n dX8_worthOf_157 0 rfl (by decide) ?_
        refine ev_getR' fl_8_195 rfl kd_82 rf_82_30 dX8_worthOf_158 ?_
        refine ev_iload dX8_worthOf_161 3 rfl ?_
        refine ev_aload_n dX8_worthOf_163 0 rfl (by decide) ?_
        refine ev_getR' fl_8_198 rfl kd_82 rf_82_31 dX8_worthOf_164 ?_
        refine ev_iload dX8_worthOf_167 5 rfl ?_
        have p50 := h24.1
        have h51 := h24.2
        refine ev_iaload' (v := (μ 100 y17.toNatClampNeg)) kd_100 ln_100 p50 rfl dX8_worthOf_169 ?_
        have p52 := h51.1
        have h53 := h51.2
        refine ev_iastore' (j := x4.toNatClampNeg) kd_99 ln_99 p52 rfl dX8_worthOf_170 ?_
        refine ev_iinc (v := (x4 + 1)) (lv' := [(0, .ref 82), (1, .int x1), (3, .int x3), (4, .int (x4 + 1)), (5, .int x5), (6, .int y17)]) dX8_worthOf_171 3 rfl rfl (by decide) [1, 2, 3, 0, 4, 5] rfl ?_
        refine ev_goto (tgt := 275) dX8_worthOf_174 rfl ?_
        refine ev_iinc (v := (x5 + 1)) (lv' := [(0, .ref 82), (1, .int x1), (3, .int x3), (4, .int (x4 + 1)), (5, .int (x5 + 1)), (6, .int y17)]) dX8_worthOf_275 4 rfl rfl (by decide) [1, 2, 3, 4, 0, 5] rfl ?_
        refine ev_goto (tgt := 102) dX8_worthOf_278 rfl ?_
        refine EvW.less [0, 1, 2, 3, 4] (lv' := [(0, .ref 82), (1, .int x1), (3, .int x3), (4, .int (x4 + 1)), (5, .int (x5 + 1))]) rfl ?_
        exact h53
    · have h21 := h18.2 c19
      refine ev_aload_n dX8_worthOf_133 0 rfl (by decide) ?_
      refine ev_getR' fl_8_195 rfl kd_82 rf_82_30 dX8_worthOf_134 ?_
      refine ev_iload dX8_worthOf_137 3 rfl ?_
      refine ev_iconst (v := (-1)) dX8_worthOf_139 rfl ?_
      refine ev_iload dX8_worthOf_140 5 rfl ?_
      refine ev_isub dX8_worthOf_142 ?_
      have p54 := h21.1
      have h55 := h21.2
      refine ev_iastore' (j := x4.toNatClampNeg) kd_99 ln_99 p54 rfl dX8_worthOf_143 ?_
      refine ev_iinc (v := (x4 + 1)) (lv' := [(0, .ref 82), (1, .int x1), (3, .int x3), (4, .int (x4 + 1)), (5, .int x5), (6, .int y17)]) dX8_worthOf_144 3 rfl rfl (by decide) [1, 2, 3, 0, 4, 5] rfl ?_
      refine ev_goto (tgt := 275) dX8_worthOf_147 rfl ?_
      refine ev_iinc (v := (x5 + 1)) (lv' := [(0, .ref 82), (1, .int x1), (3, .int x3), (4, .int (x4 + 1)), (5, .int (x5 + 1)), (6, .int y17)]) dX8_worthOf_275 4 rfl rfl (by decide) [1, 2, 3, 4, 0, 5] rfl ?_
      refine ev_goto (tgt := 102) dX8_worthOf_278 rfl ?_
      refine EvW.less [0, 1, 2, 3, 4] (lv' := [(0, .ref 82), (1, .int x1), (3, .int x3), (4, .int (x4 + 1)), (5, .int (x5 + 1))]) rfl ?_
      exact h55
theorem mset_at {μ : Mem} {a k : Nat} {x : Int32} : mset μ a k x a = up (μ a) k x := by
  funext j
  unfold mset up
  by_cases c : j = k
  · rw [if_pos ⟨rfl, c⟩, if_pos c]
  · rw [if_neg (fun q => c q.2), if_neg c]
theorem nI_p1 (h : Nat) : nI h + 1 = nI (h + 1) := nI_1 h
theorem nI_q1 {h : Nat} (h1 : 1 ≤ h) : nI h + (-1) = nI (h - 1) := by
  have := pk_m1 (h - 1)
  rw [show h - 1 + 1 = h by omega] at this
  exact this
def wkI (α : Mem) (h row k : Nat) (μ ν : Mem) : Prop := onlyM 99 100 μ ν ∧ (∀ i, i < 6 → ν 100 i = envA α h i) ∧ ∀ i, i < htE (fun k => α 18 (160 * row + k)) k → ν 99 i = runE (envA α h) (fun k => α 18 (160 * row + k)) (fun _ => 0) k i
theorem wkI.step {α μ ν ν' : Mem} {h row k : Nat} (hk : wkI α h row k μ ν) (ho : okE (α 18 (160 * row + k)) (htE (fun k => α 18 (160 * row + k)) k)) (h1 : onlyM 99 99 ν ν') (h2 : ν' 99 = stE (envA α h) (α 18 (160 * row + k)) (htE (fun k => α 18 (160 * row + k)) k) (ν 99)) : wkI α h row (k + 1) μ ν' := by
  obtain ⟨a1, a2, a3⟩ := hk
  refine ⟨a1.tr (h1.wide (by omega) (by omega)), fun i hi => ?_, fun i hi => ?_⟩
  · rw [h1 100 (by omega)]
    exact a2 i hi
  · rw [h2]
    exact stE_same ho a3 i hi
theorem lp_X8_worthOf {G : GW} {α : Mem} (hf : WF α) {p h row n : Nat} (hp : p < 3) (hrow : row < 18) (hn : n ≤ 160) (e17 : α 17 row = nI n) (hw : wfE (fun k => α 18 (160 * row + k)) n) {μ : Mem} (m94 : μ 94 row = α 17 row) (m93 : ∀ k, k < n → μ 93 (160 * row + k) = α 18 (160 * row + k)) : ∀ j k (ν : Mem), k + j = n → wkI α h row k μ ν → Ev2 G mX8_worthOf 2 102 [(0, .ref 82), (1, .int (nI p)), (3, .int (nI row)), (4, .int (nI (htE (fun k => α 18 (160 * row + k)) k))), (5, .int (nI k))] [] ν
    (fun v μ' => ∃ x, v = some (.int x) ∧ (x = boundF (valE (envA α h) (fun k => α 18 (160 * row + k)) n) (loP p) (hiP p) ∧ onlyM 99 100 μ μ')) := by
  intro j
  induction j with
  | zero =>
    intro k ν hk hI
    obtain rfl : k = n := by omega
    have hv : vp_in (nI row) 18 := vp_nI hrow (by omega)
    have e0 : ν 99 0 = valE (envA α h) (fun k => α 18 (160 * row + k)) k := hI.2.2 0 (by rw [hw.2]; exact Nat.one_pos)
    refine sg_X8_worthOf_102 hf ⟨hv, fun _ => ⟨fun c => ⟨fun _ => ?_, fun c2 => absurd c2 c⟩, fun c => ⟨fun c2 => absurd c c2, fun _ => ?_⟩⟩, fun c => ?_⟩
    · refine ⟨_, rfl, ?_, hI.1⟩
      have hp2 : ¬ p = 2 := fun q => c (by rw [q]; rfl)
      unfold boundF loP hiP
      rw [if_neg hp2, if_neg hp2, e0, imin_comm]
    · refine ⟨_, rfl, ?_, hI.1⟩
      have hp2 : p = 2 := (nI_eq (b := 2) (by omega) (by omega)).mp c
      unfold boundF loP hiP
      rw [if_pos hp2, if_pos hp2, e0, imin_comm]
    · rw [ix_nI (by omega), hI.1 94 (by omega), m94, e17] at c
      exact absurd (nI_le (Nat.le_refl k) (by omega)) c
  | succ j ih =>
    intro k ν hk hI
    have hkn : k < n := by omega
    have ho : okE (α 18 (160 * row + k)) (htE (fun k => α 18 (160 * row + k)) k) := hw.1 k hkn
    have hht := htE_hi hw.1 k (by omega)
    have hv : vp_in (nI row) 18 := vp_nI hrow (by omega)
    have ei : 160 * nI row + nI k = nI (160 * row + k) := by
      rw [show (160 : Int32) = nI 160 from rfl, pk_mul, nI_add]
    have hvi : vp_in (160 * nI row + nI k) 2880 := by rw [ei]; exact vp_nI (by omega) (by omega)
    have ec : ν 93 (160 * nI row + nI k).toNatClampNeg = α 18 (160 * row + k) := by
      rw [ei, ix_nI (by omega), hI.1 93 (by omega), m93 k hkn]
    have next : ∀ (ν' : Mem), onlyM 99 99 ν ν' → ν' 99 = stE (envA α h) (α 18 (160 * row + k)) (htE (fun k => α 18 (160 * row + k)) k) (ν 99) → ∀ x, x = nI (hE (α 18 (160 * row + k)) (htE (fun k => α 18 (160 * row + k)) k)) → Ev2 G mX8_worthOf 2 102 [(0, .ref 82), (1, .int (nI p)), (3, .int (nI row)), (4, .int x), (5, .int (nI k + 1))] [] ν' (fun v μ' => ∃ x, v = some (.int x) ∧ (x = boundF (valE (envA α h) (fun k => α 18 (160 * row + k)) n) (loP p) (hiP p) ∧ onlyM 99 100 μ μ')) := by
      intro ν' h1 h2 x hx
      rw [hx, nI_1]
      exact ih (k + 1) ν' (by omega) (hI.step ho h1 h2)
    generalize hh0 : htE (fun k => α 18 (160 * row + k)) k = h0 at ho hht next ⊢
    generalize α 18 (160 * row + k) = c at ec ho next
    have hset : ∀ q v, onlyM 99 99 ν (mset ν 99 q v) := fun q v => onlyM.set (by omega) (by omega)
    refine sg_X8_worthOf_102 hf ⟨hv, fun z => ?_, fun _ => ⟨hvi, fun y hy => ?_⟩⟩
    · rw [ix_nI (by omega), hI.1 94 (by omega), m94, e17] at z
      exact absurd z (nI_ge hkn (by omega))
    · rw [ec] at hy
      subst hy
      refine ⟨fun c0 => ⟨fun c6 => ⟨fun n12 => ⟨fun n18 => ?_, fun c18 => ?_⟩, fun c12 => ?_⟩, fun c6 => ?_⟩, fun c0 => ?_⟩
      · have nn := lt6_not c6
        have ho2 : 2 ≤ h0 := by
          unfold okE at ho
          rw [if_neg nn.1, if_neg (fun q => q.elim n12 n18)] at ho
          exact ho
        have x1 : nI h0 + (-1) = nI (h0 - 1) := nI_q1 (by omega)
        have x2 : nI (h0 - 1) - 1 = nI (h0 - 2) := by
          rw [nI_m1 (by omega)]
          congr 1
        rw [x1, x2, ix_nI (by omega), ix_nI (by omega)]
        have hv2 : vp_in (nI (h0 - 2)) 170 := vp_nI (by omega) (by omega)
        refine ⟨hv2, vp_nI (by omega) (by omega), hv2, next _ (hset _ _) ?_ _ ?_⟩
        · rw [mset_at]
          unfold stE
          rw [if_neg nn.2, if_neg nn.1, if_neg n12, if_neg n18]
        · unfold hE
          rw [if_neg nn.1, if_neg (fun q => q.elim n12 n18)]
      · have g : 1 ≤ h0 := by
          rw [c18] at ho
          exact ho
        rw [nI_m1 g, ix_nI (by omega)]
        have hv2 : vp_in (nI (h0 - 1)) 170 := vp_nI (by omega) (by omega)
        refine ⟨hv2, hv2, next _ (hset _ _) ?_ _ ?_⟩
        · rw [mset_at, c18]
          rfl
        · rw [c18]
          rfl
      · have g : 1 ≤ h0 := by
          rw [c12] at ho
          exact ho
        rw [nI_m1 g, ix_nI (by omega)]
        have hv2 : vp_in (nI (h0 - 1)) 170 := vp_nI (by omega) (by omega)
        refine ⟨hv2, fun z => ⟨hv2, next _ (hset _ _) ?_ _ ?_⟩, fun z => ⟨hv2, next _ (hset _ _) ?_ _ ?_⟩⟩
        · rw [mset_at, c12]
          show up (ν 99) (h0 - 1) 0 = up (ν 99) (h0 - 1) (if ν 99 (h0 - 1) = 0 then 1 else 0)
          rw [if_neg z]
        · rw [c12]
          rfl
        · rw [mset_at, c12]
          show up (ν 99) (h0 - 1) 1 = up (ν 99) (h0 - 1) (if ν 99 (h0 - 1) = 0 then 1 else 0)
          rw [if_pos z]
        · rw [c12]
          rfl
      · have c6' : y < 6 := Int32.not_le.mp c6
        have c0' : ¬ y < 0 := Int32.not_lt.mpr c0
        have hlt : h0 < 40 := by
          unfold okE at ho
          rw [if_pos c6'] at ho
          exact ho
        have hy6 : vp_in y 6 := by
          rw [vp_in_iff]
          exact ⟨i_le.mp c0, i_lt.mp c6'⟩
        rw [ix_nI (by omega), nI_1]
        refine ⟨hy6, vp_nI (by omega) (by omega), next _ (hset _ _) ?_ _ ?_⟩
        · rw [mset_at, hI.2.1 _ (va_in_lt hy6)]
          unfold stE
          rw [if_neg c0', if_pos c6']
        · unfold hE
          rw [if_pos c6']
      · have c0' : y < 0 := Int32.not_le.mp c0
        have c6' : y < 6 := Int32.lt_trans c0' (by decide)
        have hlt : h0 < 40 := by
          unfold okE at ho
          rw [if_pos c6'] at ho
          exact ho
        rw [ix_nI (by omega), nI_1]
        refine ⟨vp_nI (by omega) (by omega), next _ (hset _ _) ?_ _ ?_⟩
        · rw [mset_at]
          unfold stE
          rw [if_pos c0']
        · unfold hE
          rw [if_pos c6']
theorem ct_X8_worthOf {G : GW} {α : Mem} (hf : WF α) (x1 x2 : Int32) (μ : Mem) (hp : VM α μ ∧ inB x1 0 2 = true ∧ inB x2 0 (α 0 0 - 1) = true) : Ev2 G mX8_worthOf 2 0 [(0, .ref 82), (1, .int x1), (2, .int x2)] [] μ (fun v μ' => ∃ x, v = some (.int x) ∧ (x = saidA α x1.toNatClampNeg x2.toNatClampNeg ∧ onlyM 99 100 μ μ')) := by
  obtain ⟨hv, h1, h2⟩ := hp
  obtain ⟨i, hi, hi7, rfl⟩ := vH' hf h2
  obtain ⟨p, hp, rfl⟩ := inB_nI (m := 2) (by omega) h1
  obtain ⟨e1, e2, e3, e4, e5, e6⟩ := hv.h1 hi
  obtain ⟨-, ⟨f, hff, ef⟩, ⟨t, ht, et⟩, -⟩ := hf.2.2.2.1 i hi
  obtain ⟨hL, hL2⟩ := hf.1.2.2.2.1
  have hX6 := hf.1.2.2.1.2
  have cL : μ 82 14 = nI (aL α) := hv.1.2.2.2.1.trans hL
  have hv8 : vp_in (nI i) 8 := vp_nI (by omega) (by omega)
  obtain ⟨n, hn, e17, hw⟩ := hf.2.2.2.2.2.1 _ hL2 p (by omega)
  obtain ⟨m94, m93⟩ := hv.2.2.2.2.2.1 _ hL2 p (by omega)
  rw [e17, ix_nI (by omega)] at m93
  have er : 3 * nI (aL α) + nI p = nI (3 * aL α + p) := by
    rw [show (3 : Int32) = nI 3 from rfl, pk_mul, nI_add]
  obtain ⟨q1, q2⟩ := ix_7 hff ht
  refine sg_X8_worthOf_0 hf ?_
  rw [ix_nI (i := i) (by omega), e2, e3, e4, e5, e6, ef, et, q2, cL, er, ix_nI (i := p) (by omega)]
  refine ⟨hv8, hv8, hv8, hv8, hv8, hv8, hv8, q1, ?_⟩
  have hl := lp_X8_worthOf (G := G) hf (p := p) (h := i) (row := 3 * aL α + p) (by omega) (by omega) hn e17 hw m94 m93 n 0 (mset (mset (mset (mset (mset (mset μ 100 0 (α 7 i)) 100 1 (α 8 i)) 100 2 (nI f)) 100 3 (nI t)) 100 4 (α 9 i)) 100 5 (μ 83 (7 * f + t))) (by omega) ⟨?_, ?_, fun k hk => absurd hk (Nat.not_lt_zero k)⟩
  · refine ev2_imp hl ?_
    rintro v μ' ⟨x, hx, h3, h4⟩
    refine ⟨x, hx, ?_, h4⟩
    rw [h3]
    unfold saidA sayA
    rw [e17, ix_nI (by omega)]
  · intro a ha
    rw [mset_ne (by omega), mset_ne (by omega), mset_ne (by omega), mset_ne (by omega), mset_ne (by omega), mset_ne (by omega)]
  · intro k hk
    have e83 : μ 83 (7 * f + t) = α 1 (7 * f + t) := hv.2.1 _ (by omega)
    unfold envA
    rw [ef, et, ix_nI (by omega), ix_nI (by omega), e83]
    rcases (show k = 0 ∨ k = 1 ∨ k = 2 ∨ k = 3 ∨ k = 4 ∨ k = 5 by omega) with rfl | rfl | rfl | rfl | rfl | rfl <;> simp (disch := omega) only [mset_same, mset_other] <;> rfl
theorem sg_X8_outOf_0 {G : GW} {K : Option Value → Mem → Prop} {μ : Mem} {α : Mem} (hf : WF α) {x1 : Int32}  (h : (VM α μ ∧ inB (0 : Int32) 0 2 = true ∧ inB x1 0 (α 0 0 - 1) = true) ∧ ∀ (z3 : Int32) (μ4 : Mem), (z3 = saidA α (0 : Int32).toNatClampNeg x1.toNatClampNeg ∧ onlyM 99 100 μ μ4) → (vp_in x1 8) ∧ (((μ4 86 x1.toNatClampNeg) = 2) → (vp_in x1 8) ∧ ∀ y14 : Int32, y14 = (z3 + (μ4 90 x1.toNatClampNeg)) → Ev2 G mX8_outOf 3 56 [(2, .int y14)] [] μ4 K) ∧ ((¬ ((μ4 86 x1.toNatClampNeg) = 2)) → (vp_in x1 8) ∧ ((¬ (μ4 86 x1.toNatClampNeg) = 4) → (vp_in x1 8) ∧ ((¬ (μ4 86 x1.toNatClampNeg) = 5) → Ev2 G mX8_outOf 3 56 [(2, .int z3)] [] μ4 K) ∧ (((μ4 86 x1.toNatClampNeg) = 5) → Ev2 G mX8_outOf 3 56 [(2, .int (z3 / 2))] [] μ4 K)) ∧ (((μ4 86 x1.toNatClampNeg) = 4) → (vp_in x1 8) ∧ ∀ y28 : Int32, y28 = (z3 + (μ4 90 x1.toNatClampNeg)) → Ev2 G mX8_outOf 3 56 [(2, .int y28)] [] μ4 K))) : Ev2 G mX8_outOf 3 0 [(0, .ref 82), (1, .int x1)] [] μ K := by
  refine ev_aload_n dX8_outOf_0 0 rfl (by decide) ?_
  refine ev_iconst (v := 0) dX8_outOf_1 rfl ?_
  refine ev_iload_n dX8_outOf_2 1 rfl ?_
  have p1 := h.1
  have h2 := h.2
  refine e2_callVr (Rl := fun z3 μ4 => z3 = saidA α (0 : Int32).toNatClampNeg x1.toNatClampNeg ∧ onlyM 99 100 μ μ4) (a := 82) (as := [.int 0, .int x1]) (st := []) ok_X8_worthOf vi_X8_worthOf ml_8_60 hcl_8 kd_82 dX8_outOf_3 rfl rfl (Nat.le_of_ble_eq_true rfl) (Nat.le_of_ble_eq_true rfl) (by decide) (ct_X8_worthOf hf (0) (x1) μ p1) (fun z3 μ4 r5 => ?_)
  have h6 := h2 z3 μ4 r5
  refine ev_istore_n (lv' := [(0, .ref 82), (1, .int x1), (2, .int z3)]) dX8_outOf_6 (by decide) [1, 2, 0] rfl ?_
  refine ev_aload_n dX8_outOf_7 0 rfl (by decide) ?_
  refine ev_getR' fl_8_35 rfl kd_82 rf_82_5 dX8_outOf_8 ?_
  refine ev_iload_n dX8_outOf_11 1 rfl ?_
  have p7 := h6.1
  have h8 := h6.2
  refine ev_iaload' (v := (μ4 86 x1.toNatClampNeg)) kd_86 ln_86 p7 rfl dX8_outOf_12 ?_
  refine ev_iconst (v := 2) dX8_outOf_13 rfl ?_
  refine ev_icmp_eq (tgt := 27) dX8_outOf_14 rfl (fun c9 => ?_) (fun c9 => ?_)
  · have h10 := h8.1 c9
    refine ev_iload_n dX8_outOf_27 2 rfl ?_
    refine ev_aload_n dX8_outOf_28 0 rfl (by decide) ?_
    refine ev_getR' fl_8_47 rfl kd_82 rf_82_9 dX8_outOf_29 ?_
    refine ev_iload_n dX8_outOf_32 1 rfl ?_
    have p12 := h10.1
    have h13 := h10.2
    refine ev_iaload' (v := (μ4 90 x1.toNatClampNeg)) kd_90 ln_90 p12 rfl dX8_outOf_33 ?_
    refine ev_iadd dX8_outOf_34 ?_
    refine ev_goto (tgt := 55) dX8_outOf_35 rfl ?_
    refine ev_top (fun y14 ey14 => ?_)
    have h15 := h13 y14 ey14
    refine ev_istore_n (lv' := [(0, .ref 82), (1, .int x1), (2, .int y14)]) dX8_outOf_55 (by decide) [1, 2, 0] rfl ?_
    refine EvW.less [2] (lv' := [(2, .int y14)]) rfl ?_
    exact h15
  · have h11 := h8.2 c9
    refine ev_aload_n dX8_outOf_17 0 rfl (by decide) ?_
    refine ev_getR' fl_8_35 rfl kd_82 rf_82_5 dX8_outOf_18 ?_
    refine ev_iload_n dX8_outOf_21 1 rfl ?_
    have p16 := h11.1
    have h17 := h11.2
    refine ev_iaload' (v := (μ4 86 x1.toNatClampNeg)) kd_86 ln_86 p16 rfl dX8_outOf_22 ?_
    refine ev_iconst (v := 4) dX8_outOf_23 rfl ?_
    refine ev_icmp_ne (tgt := 38) dX8_outOf_24 rfl (fun c18 => ?_) (fun c18 => ?_)
    · have h19 := h17.1 c18
      refine ev_aload_n dX8_outOf_38 0 rfl (by decide) ?_
      refine ev_getR' fl_8_35 rfl kd_82 rf_82_5 dX8_outOf_39 ?_
      refine ev_iload_n dX8_outOf_42 1 rfl ?_
      have p21 := h19.1
      have h22 := h19.2
      refine ev_iaload' (v := (μ4 86 x1.toNatClampNeg)) kd_86 ln_86 p21 rfl dX8_outOf_43 ?_
      refine ev_iconst (v := 5) dX8_outOf_44 rfl ?_
      refine ev_icmp_ne (tgt := 54) dX8_outOf_45 rfl (fun c23 => ?_) (fun c23 => ?_)
      · have h24 := h22.1 c23
        refine ev_iload_n dX8_outOf_54 2 rfl ?_
        refine ev_istore_n (lv' := [(0, .ref 82), (1, .int x1), (2, .int z3)]) dX8_outOf_55 (by decide) [1, 2, 0] rfl ?_
        refine EvW.less [2] (lv' := [(2, .int z3)]) rfl ?_
        exact h24
      · have h25 := h22.2 c23
        refine ev_iload_n dX8_outOf_48 2 rfl ?_
        refine ev_iconst (v := 2) dX8_outOf_49 rfl ?_
        refine ev_idiv dX8_outOf_50 (by decide) ?_
        refine ev_goto (tgt := 55) dX8_outOf_51 rfl ?_
        refine ev_istore_n (lv' := [(0, .ref 82), (1, .int x1), (2, .int (z3 / 2))]) dX8_outOf_55 (by decide) [1, 2, 0] rfl ?_
        refine EvW.less [2] (lv' := [(2, .int (z3 / 2))]) rfl ?_
        exact h25
    · have h20 := h17.2 c18
      refine ev_iload_n dX8_outOf_27 2 rfl ?_
      refine ev_aload_n dX8_outOf_28 0 rfl (by decide) ?_
      refine ev_getR' fl_8_47 rfl kd_82 rf_82_9 dX8_outOf_29 ?_
      refine ev_iload_n dX8_outOf_32 1 rfl ?_
      have p26 := h20.1
      have h27 := h20.2
      refine ev_iaload' (v := (μ4 90 x1.toNatClampNeg)) kd_90 ln_90 p26 rfl dX8_outOf_33 ?_
      refine ev_iadd dX8_outOf_34 ?_
      refine ev_goto (tgt := 55) dX8_outOf_35 rfl ?_
      refine ev_top (fun y28 ey28 => ?_)
      have h29 := h27 y28 ey28
      refine ev_istore_n (lv' := [(0, .ref 82), (1, .int x1), (2, .int y28)]) dX8_outOf_55 (by decide) [1, 2, 0] rfl ?_
      refine EvW.less [2] (lv' := [(2, .int y28)]) rfl ?_
      exact h29
theorem sg_X8_outOf_56 {G : GW} {K : Option Value → Mem → Prop} {μ : Mem} {α : Mem} (hf : WF α) {x2 : Int32}  (h : K (some (.int (imax 1 x2))) μ) : Ev2 G mX8_outOf 3 56 [(2, .int x2)] [] μ K := by
  refine ev_iconst (v := 1) dX8_outOf_56 rfl ?_
  refine ev_iload_n dX8_outOf_57 0 rfl ?_
  refine ev_max ml_8_64 dX8_outOf_58 (Nat.le_of_ble_eq_true rfl) (by decide) ⟨Nat.le_refl _, Nat.le_refl _⟩ ?_
  exact ev_ireturn dX8_outOf_61 rfl True.intro rfl rfl ⟨rfl, h⟩
theorem imax_one {x : Nat} (hx : x < 2 ^ 30) (h : 1 ≤ x) : imax 1 (nI x) = nI x := by
  rw [show (1 : Int32) = nI 1 from rfl, imax_nI (by omega) hx, Nat.max_eq_right h]
theorem ct_X8_outOf {G : GW} {α : Mem} (hf : WF α) (x1 : Int32) (μ : Mem) (hp : VM α μ ∧ inB x1 0 (α 0 0 - 1) = true) : Ev2 G mX8_outOf 3 0 [(0, .ref 82), (1, .int x1)] [] μ (fun v μ' => ∃ x, v = some (.int x) ∧ (x = outA α x1.toNatClampNeg ∧ onlyM 99 100 μ μ')) := by
  obtain ⟨hv, h2⟩ := hp
  have h2' := h2
  obtain ⟨i, hi, hi7, rfl⟩ := vH' hf h2
  have hv8 : vp_in (nI i) 8 := vp_nI (by omega) (by omega)
  refine sg_X8_outOf_0 hf ⟨⟨hv, by decide, h2'⟩, fun z ν hz => ?_⟩
  obtain ⟨hz, ho⟩ := hz
  have hz : z = saidA α 0 (nI i).toNatClampNeg := hz
  rw [ix_nI (by omega)] at hz ⊢
  obtain ⟨e1, e2, e3, e4, e5, e6⟩ := (hv.only hf.1 ho (by omega) (by omega)).h1 hi
  obtain ⟨x, s1, s2, es⟩ := (saidA_range α i).1
  obtain ⟨-, -, -, -, -, ⟨m, hm, em⟩, -⟩ := hf.2.2.2.1 i hi
  rw [e1, e5]
  have fin : ∀ y, outA α i = imax 1 y → Ev2 G mX8_outOf 3 56 [(2, .int y)] [] ν (fun v μ' => ∃ x, v = some (.int x) ∧ (x = outA α i ∧ onlyM 99 100 μ μ')) := fun y hy => sg_X8_outOf_56 hf ⟨_, rfl, hy.symm, ho⟩
  refine ⟨hv8, fun c2 => ⟨hv8, fun y hy => fin y (hy ▸ ?_)⟩, fun c2 => ⟨hv8, fun c4 => ⟨hv8, fun c5 => fin _ ?_, fun c5 => fin _ ?_⟩, fun c4 => ⟨hv8, fun y hy => fin y (hy ▸ ?_)⟩⟩⟩
  · unfold outA outF
    rw [if_pos (Or.inl c2), hz, es, em, nI_add, imax_one (by omega) (by omega)]
  · unfold outA outF
    rw [if_neg (fun q => q.elim c2 c4), if_neg c5, hz, es, imax_one (by omega) (by omega)]
  · unfold outA outF
    rw [if_neg (fun q => q.elim c2 c4), if_pos c5, hz]
  · unfold outA outF
    rw [if_pos (Or.inr c4), hz, es, em, nI_add, imax_one (by omega) (by omega)]
theorem sg_X8_homeOf_0 {G : GW} {K : Option Value → Mem → Prop} {μ : Mem} {α : Mem} (hf : WF α) {x1 : Int32}  (h : (VM α μ ∧ inB (1 : Int32) 0 2 = true ∧ inB x1 0 (α 0 0 - 1) = true) ∧ ∀ (z3 : Int32) (μ4 : Mem), (z3 = saidA α (1 : Int32).toNatClampNeg x1.toNatClampNeg ∧ onlyM 99 100 μ μ4) → (vp_in x1 8) ∧ ((¬ (μ4 86 x1.toNatClampNeg) = 4) → K (some (.int z3)) μ4) ∧ (((μ4 86 x1.toNatClampNeg) = 4) → (vp_in x1 8) ∧ K (some (.int ((2 * z3) + (μ4 90 x1.toNatClampNeg)))) μ4)) : Ev2 G mX8_homeOf 3 0 [(0, .ref 82), (1, .int x1)] [] μ K := by
  refine ev_aload_n dX8_homeOf_0 0 rfl (by decide) ?_
  refine ev_iconst (v := 1) dX8_homeOf_1 rfl ?_
  refine ev_iload_n dX8_homeOf_2 1 rfl ?_
  have p1 := h.1
  have h2 := h.2
  refine e2_callVr (Rl := fun z3 μ4 => z3 = saidA α (1 : Int32).toNatClampNeg x1.toNatClampNeg ∧ onlyM 99 100 μ μ4) (a := 82) (as := [.int 1, .int x1]) (st := []) ok_X8_worthOf vi_X8_worthOf ml_8_60 hcl_8 kd_82 dX8_homeOf_3 rfl rfl (Nat.le_of_ble_eq_true rfl) (Nat.le_of_ble_eq_true rfl) (by decide) (ct_X8_worthOf hf (1) (x1) μ p1) (fun z3 μ4 r5 => ?_)
  have h6 := h2 z3 μ4 r5
  refine ev_istore_n (lv' := [(0, .ref 82), (1, .int x1), (2, .int z3)]) dX8_homeOf_6 (by decide) [1, 2, 0] rfl ?_
  refine ev_aload_n dX8_homeOf_7 0 rfl (by decide) ?_
  refine ev_getR' fl_8_35 rfl kd_82 rf_82_5 dX8_homeOf_8 ?_
  refine ev_iload_n dX8_homeOf_11 1 rfl ?_
  have p7 := h6.1
  have h8 := h6.2
  refine ev_iaload' (v := (μ4 86 x1.toNatClampNeg)) kd_86 ln_86 p7 rfl dX8_homeOf_12 ?_
  refine ev_iconst (v := 4) dX8_homeOf_13 rfl ?_
  refine ev_icmp_ne (tgt := 30) dX8_homeOf_14 rfl (fun c9 => ?_) (fun c9 => ?_)
  · have h10 := h8.1 c9
    refine ev_iload_n dX8_homeOf_30 2 rfl ?_
    exact ev_ireturn dX8_homeOf_31 rfl True.intro rfl rfl ⟨rfl, h10⟩
  · have h11 := h8.2 c9
    refine ev_iconst (v := 2) dX8_homeOf_17 rfl ?_
    refine ev_iload_n dX8_homeOf_18 2 rfl ?_
    refine ev_imul dX8_homeOf_19 ?_
    refine ev_aload_n dX8_homeOf_20 0 rfl (by decide) ?_
    refine ev_getR' fl_8_47 rfl kd_82 rf_82_9 dX8_homeOf_21 ?_
    refine ev_iload_n dX8_homeOf_24 1 rfl ?_
    have p12 := h11.1
    have h13 := h11.2
    refine ev_iaload' (v := (μ4 90 x1.toNatClampNeg)) kd_90 ln_90 p12 rfl dX8_homeOf_25 ?_
    refine ev_iadd dX8_homeOf_26 ?_
    refine ev_goto (tgt := 31) dX8_homeOf_27 rfl ?_
    exact ev_ireturn dX8_homeOf_31 rfl True.intro rfl rfl ⟨rfl, h13⟩
theorem ct_X8_homeOf {G : GW} {α : Mem} (hf : WF α) (x1 : Int32) (μ : Mem) (hp : VM α μ ∧ inB x1 0 (α 0 0 - 1) = true) : Ev2 G mX8_homeOf 3 0 [(0, .ref 82), (1, .int x1)] [] μ (fun v μ' => ∃ x, v = some (.int x) ∧ (x = homeA α x1.toNatClampNeg ∧ onlyM 99 100 μ μ')) := by
  obtain ⟨hv, h2⟩ := hp
  have h2' := h2
  obtain ⟨i, hi, hi7, rfl⟩ := vH' hf h2
  have hv8 : vp_in (nI i) 8 := vp_nI (by omega) (by omega)
  refine sg_X8_homeOf_0 hf ⟨⟨hv, by decide, h2'⟩, fun z ν hz => ?_⟩
  obtain ⟨hz, ho⟩ := hz
  have hz : z = saidA α 1 (nI i).toNatClampNeg := hz
  rw [ix_nI (by omega)] at hz ⊢
  obtain ⟨e1, e2, e3, e4, e5, e6⟩ := (hv.only hf.1 ho (by omega) (by omega)).h1 hi
  rw [e1, e5, hz]
  refine ⟨hv8, fun c => ⟨_, rfl, ?_, ho⟩, fun c => ⟨hv8, _, rfl, ?_, ho⟩⟩
  · unfold homeA homeF
    rw [if_neg c]
  · unfold homeA homeF
    rw [if_pos c]
