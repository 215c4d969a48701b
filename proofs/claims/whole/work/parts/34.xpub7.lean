/-! ===== the class's public methods: both, needed, again, doctor, lost ===== -/
def stepB (s : Int32 × Int32 × Int32) (x y k : Int32) : Int32 × Int32 × Int32 := if imax x y < s.1 then (imax x y, x + y, k) else if imax x y = s.1 then (if s.2.1 ≤ x + y then s else (imax x y, x + y, k)) else s
def bothA (α : Mem) (f1 t1 f2 t2 : Nat) : Nat → Int32 × Int32 × Int32
  | 0 => (1000000000, 1000000000, 0)
  | k + 1 => stepB (bothA α f1 t1 f2 t2 k) (soonA α (nI k) f1 t1) (soonA α (allA α &&& (nI k ^^^ (-1))) f2 t2) (nI k)
theorem bothA_succ (α : Mem) (f1 t1 f2 t2 k : Nat) : bothA α f1 t1 f2 t2 (k + 1) = stepB (bothA α f1 t1 f2 t2 k) (soonA α (nI k) f1 t1) (soonA α (allA α &&& (nI k ^^^ (-1))) f2 t2) (nI k) := rfl
def sel3 (what a b c : Int32) : Int32 := if what = 0 then a else if what = 1 then b else c
theorem sel3_0 {what a b c : Int32} (h : what = 0) : sel3 what a b c = a := if_pos h
theorem sel3_1 {what a b c : Int32} (h0 : ¬ what = 0) (h : what = 1) : sel3 what a b c = b := (if_neg h0).trans (if_pos h)
theorem sel3_2 {what a b c : Int32} (h0 : ¬ what = 0) (h : ¬ what = 1) : sel3 what a b c = c := (if_neg h0).trans (if_neg h)
def rFA (α : Mem) (r : Int32) : Nat := (α 2 r.toNatClampNeg).toNatClampNeg
def rTA (α : Mem) (r : Int32) : Nat := (α 3 r.toNatClampNeg).toNatClampNeg
def sp_both (α : Mem) (a b what : Int32) : Int32 := if inB a 0 (α 0 1 - 1) = true then (if inB b 0 (α 0 1 - 1) = true then (if inB what 0 2 = true then sel3 what (bothA α (rFA α a) (rTA α a) (rFA α b) (rTA α b) (2 ^ aN α)).1 (bothA α (rFA α a) (rTA α a) (rFA α b) (rTA α b) (2 ^ aN α)).2.1 (bothA α (rFA α a) (rTA α a) (rFA α b) (rTA α b) (2 ^ aN α)).2.2 else -7) else -5) else -5
theorem ride_at {α μ : Mem} (hf : WF α) (h : VX0 α μ) {x : Int32} (c : inB x 0 (α 0 1 - 1) = true) : vp_in x 4 ∧ vp_in (μ 20 x.toNatClampNeg) 7 ∧ vp_in (μ 21 x.toNatClampNeg) 7 ∧ (μ 20 x.toNatClampNeg).toNatClampNeg = rFA α x ∧ (μ 21 x.toNatClampNeg).toNatClampNeg = rTA α x := by
  obtain ⟨v1, v2, -⟩ := VX.vR hf h c
  have q := h.2.2.1 _ v2
  obtain ⟨⟨f, h1, e1⟩, t, h2, e2⟩ := hf.2.2.1 _ v2
  unfold rFA rTA
  rw [q.1, q.2, e1, e2]
  exact ⟨v1, vp_nI h1 (by omega), vp_nI h2 (by omega), rfl, rfl⟩
theorem pow_le {α : Mem} (hf : wfC α) : 2 ^ aN α ≤ 128 := Nat.pow_le_pow_right (n := 2) (by omega) hf.1.2
theorem sets_in {α : Mem} (hf : wfC α) {k : Nat} (hk : k < 2 ^ aN α) : ¬ allA α < nI k := by
  have := pow_le hf
  have := Nat.two_pow_pos (aN α)
  rw [allA_eq hf, i_lt, nI_toInt (by omega), nI_toInt (by omega)]
  omega
theorem sets_out {α : Mem} (hf : wfC α) : allA α < nI (2 ^ aN α) := by
  have := pow_le hf
  have := Nat.two_pow_pos (aN α)
  rw [allA_eq hf, i_lt, nI_toInt (by omega), nI_toInt (by omega)]
  omega
theorem sg_X7_both_0 {G : GW} {K : Option Value → Mem → Prop} {μ : Mem} {x1 x2 x3 : Int32}  (h : (((inB x1 0 (μ 10 10 - 1)) = false) → K (some (.int (-5))) μ) ∧ (((inB x1 0 (μ 10 10 - 1)) = true) → (((inB x2 0 (μ 10 10 - 1)) = true) → (((inB x3 (0 : Int32) (2 : Int32)) = true) → Ev2 G mX7_both 7 45 [(0, .ref 10), (1, .int x1), (2, .int x2), (3, .int x3), (4, .int 1000000000), (5, .int 1000000000), (6, .int 0), (7, .int 0)] [] μ K) ∧ (((inB x3 (0 : Int32) (2 : Int32)) = false) → K (some (.int (-7))) μ)) ∧ (((inB x2 0 (μ 10 10 - 1)) = false) → K (some (.int (-5))) μ))) : Ev2 G mX7_both 7 0 [(0, .ref 10), (1, .int x1), (2, .int x2), (3, .int x3)] [] μ K := by
  refine ev_aload_n dX7_both_0 0 rfl (by decide) ?_
  refine ev_iload_n dX7_both_1 1 rfl ?_
  refine e2_callV (w := .int (bi (inB x1 0 (μ 10 10 - 1)))) (μ1 := μ) (a := 10) (as := [.int x1]) (st := []) ok_X7_isRide vi_X7_isRide ml_7_98 hcl_7 kd_10 dX7_both_2 rfl rfl (Nat.le_of_ble_eq_true rfl) (Nat.le_of_ble_eq_true rfl) (by decide) (ct_X7_isRide (x1) μ) ?_
  refine ev_ifeq_bi (tgt := 16) dX7_both_5 rfl (fun c1 => ?_) (fun c1 => ?_)
  · have h2 := h.1 c1
    refine ev_bipush (v := (-5)) dX7_both_16 rfl ?_
    exact ev_ireturn dX7_both_18 rfl True.intro rfl rfl ⟨rfl, h2⟩
  · have h3 := h.2 c1
    refine ev_aload_n dX7_both_8 0 rfl (by decide) ?_
    refine ev_iload_n dX7_both_9 2 rfl ?_
    refine e2_callV (w := .int (bi (inB x2 0 (μ 10 10 - 1)))) (μ1 := μ) (a := 10) (as := [.int x2]) (st := []) ok_X7_isRide vi_X7_isRide ml_7_98 hcl_7 kd_10 dX7_both_10 rfl rfl (Nat.le_of_ble_eq_true rfl) (Nat.le_of_ble_eq_true rfl) (by decide) (ct_X7_isRide (x2) μ) ?_
    refine ev_ifne_bi (tgt := 19) dX7_both_13 rfl (fun c4 => ?_) (fun c4 => ?_)
    · have h5 := h3.1 c4
      refine ev_iload_n dX7_both_19 3 rfl ?_
      refine ev_iconst (v := 0) dX7_both_20 rfl ?_
      refine ev_iconst (v := 2) dX7_both_21 rfl ?_
      refine e2_callS (w := .int (bi (inB x3 (0 : Int32) (2 : Int32)))) (μ1 := μ) (as := [.int x3, .int 0, .int 2]) (st := []) ok_X7_isWithin sv_X7_isWithin ml_7_86 dX7_both_22 rfl rfl (Nat.le_of_ble_eq_true rfl) (Nat.le_of_ble_eq_true rfl) (by decide) (ct_X7_isWithin (x3) (0) (2) μ) ?_
      refine ev_ifne_bi (tgt := 31) dX7_both_25 rfl (fun c7 => ?_) (fun c7 => ?_)
      · have h8 := h5.1 c7
        refine ev_ldc dX7_both_31 co_7_201 ?_
        refine ev_istore (lv' := [(0, .ref 10), (1, .int x1), (2, .int x2), (3, .int x3), (4, .int 1000000000)]) dX7_both_33 (by decide) [1, 2, 3, 4, 0] rfl ?_
        refine ev_ldc dX7_both_35 co_7_201 ?_
        refine ev_istore (lv' := [(0, .ref 10), (1, .int x1), (2, .int x2), (3, .int x3), (4, .int 1000000000), (5, .int 1000000000)]) dX7_both_37 (by decide) [1, 2, 3, 4, 5, 0] rfl ?_
        refine ev_iconst (v := 0) dX7_both_39 rfl ?_
        refine ev_istore (lv' := [(0, .ref 10), (1, .int x1), (2, .int x2), (3, .int x3), (4, .int 1000000000), (5, .int 1000000000), (6, .int 0)]) dX7_both_40 (by decide) [1, 2, 3, 4, 5, 6, 0] rfl ?_
        refine ev_iconst (v := 0) dX7_both_42 rfl ?_
        refine ev_istore (lv' := [(0, .ref 10), (1, .int x1), (2, .int x2), (3, .int x3), (4, .int 1000000000), (5, .int 1000000000), (6, .int 0), (7, .int 0)]) dX7_both_43 (by decide) [1, 2, 3, 4, 5, 6, 7, 0] rfl ?_
        exact h8
      · have h9 := h5.2 c7
        refine ev_bipush (v := (-7)) dX7_both_28 rfl ?_
        exact ev_ireturn dX7_both_30 rfl True.intro rfl rfl ⟨rfl, h9⟩
    · have h6 := h3.2 c4
      refine ev_bipush (v := (-5)) dX7_both_16 rfl ?_
      exact ev_ireturn dX7_both_18 rfl True.intro rfl rfl ⟨rfl, h6⟩
theorem sg_X7_both_45 {G : GW} {K : Option Value → Mem → Prop} {μ : Mem} {x1 x2 x3 x4 x5 x6 x7 : Int32}  (h : ((((((1 : Int32) <<< (μ 10 9 &&& 31)) - 1)) < x7) → ((¬ x3 = 0) → ((¬ x3 = 1) → K (some (.int x6)) μ) ∧ ((x3 = 1) → K (some (.int x5)) μ)) ∧ ((x3 = 0) → K (some (.int x4)) μ)) ∧ ((¬ (((((1 : Int32) <<< (μ 10 9 &&& 31)) - 1)) < x7)) → (vp_in x1 4) ∧ (vp_in x1 4) ∧ (vp_in (μ 20 x1.toNatClampNeg) 7 ∧ vp_in (μ 21 x1.toNatClampNeg) 7 ∧ goOK (goX μ) x7) ∧ ∀ (z16 : Int32) (μ17 : Mem), (soonR μ x7 (μ 20 x1.toNatClampNeg).toNatClampNeg (μ 21 x1.toNatClampNeg).toNatClampNeg z16 μ17) → (vp_in x2 4) ∧ (vp_in x2 4) ∧ (vp_in (μ17 20 x2.toNatClampNeg) 7 ∧ vp_in (μ17 21 x2.toNatClampNeg) 7 ∧ goOK (goX μ17) (((((1 : Int32) <<< (μ17 10 9 &&& 31)) - 1)) &&& (x7 ^^^ (-1)))) ∧ ∀ (z26 : Int32) (μ27 : Mem), (soonR μ17 (((((1 : Int32) <<< (μ17 10 9 &&& 31)) - 1)) &&& (x7 ^^^ (-1))) (μ17 20 x2.toNatClampNeg).toNatClampNeg (μ17 21 x2.toNatClampNeg).toNatClampNeg z26 μ27) → (((imax z16 z26) < x4) → Ev2 G mX7_both 7 45 [(0, .ref 10), (1, .int x1), (2, .int x2), (3, .int x3), (4, .int (imax z16 z26)), (5, .int (z16 + z26)), (6, .int x7), (7, .int (x7 + 1))] [] μ27 K) ∧ ((¬ ((imax z16 z26) < x4)) → ((¬ (imax z16 z26) = x4) → Ev2 G mX7_both 7 45 [(0, .ref 10), (1, .int x1), (2, .int x2), (3, .int x3), (4, .int x4), (5, .int x5), (6, .int x6), (7, .int (x7 + 1))] [] μ27 K) ∧ (((imax z16 z26) = x4) → ((x5 ≤ (z16 + z26)) → Ev2 G mX7_both 7 45 [(0, .ref 10), (1, .int x1), (2, .int x2), (3, .int x3), (4, .int x4), (5, .int x5), (6, .int x6), (7, .int (x7 + 1))] [] μ27 K) ∧ ((¬ (x5 ≤ (z16 + z26))) → Ev2 G mX7_both 7 45 [(0, .ref 10), (1, .int x1), (2, .int x2), (3, .int x3), (4, .int (imax z16 z26)), (5, .int (z16 + z26)), (6, .int x7), (7, .int (x7 + 1))] [] μ27 K))))) : Ev2 G mX7_both 7 45 [(0, .ref 10), (1, .int x1), (2, .int x2), (3, .int x3), (4, .int x4), (5, .int x5), (6, .int x6), (7, .int x7)] [] μ K := by
  refine ev_iload dX7_both_45 7 rfl ?_
  refine ev_aload_n dX7_both_47 0 rfl (by decide) ?_
  refine e2_callV (w := .int ((((1 : Int32) <<< (μ 10 9 &&& 31)) - 1))) (μ1 := μ) (a := 10) (as := []) (st := [.int x7]) ok_X7_allHorses vi_X7_allHorses ml_7_176 hcl_7 kd_10 dX7_both_48 rfl rfl (Nat.le_of_ble_eq_true rfl) (Nat.le_of_ble_eq_true rfl) (by decide) (ct_X7_allHorses μ) ?_
  refine ev_icmp_gt (tgt := 156) dX7_both_51 rfl (fun c1 => ?_) (fun c1 => ?_)
  · have h2 := h.1 c1
    refine ev_iload_n dX7_both_156 3 rfl ?_
    refine ev_if_ne (tgt := 165) dX7_both_157 rfl (fun c4 => ?_) (fun c4 => ?_)
    · have h5 := h2.1 c4
      refine ev_iload_n dX7_both_165 3 rfl ?_
      refine ev_iconst (v := 1) dX7_both_166 rfl ?_
      refine ev_icmp_ne (tgt := 175) dX7_both_167 rfl (fun c7 => ?_) (fun c7 => ?_)
      · have h8 := h5.1 c7
        refine ev_iload dX7_both_175 6 rfl ?_
        exact ev_ireturn dX7_both_177 rfl True.intro rfl rfl ⟨rfl, h8⟩
      · have h9 := h5.2 c7
        refine ev_iload dX7_both_170 5 rfl ?_
        refine ev_goto (tgt := 177) dX7_both_172 rfl ?_
        exact ev_ireturn dX7_both_177 rfl True.intro rfl rfl ⟨rfl, h9⟩
    · have h6 := h2.2 c4
      refine ev_iload dX7_both_160 4 rfl ?_
      refine ev_goto (tgt := 177) dX7_both_162 rfl ?_
      exact ev_ireturn dX7_both_177 rfl True.intro rfl rfl ⟨rfl, h6⟩
  · have h3 := h.2 c1
    refine ev_aload_n dX7_both_54 0 rfl (by decide) ?_
    refine ev_iload dX7_both_55 7 rfl ?_
    refine ev_aload_n dX7_both_57 0 rfl (by decide) ?_
    refine ev_getR' fl_7_20 rfl kd_10 rf_10_2 dX7_both_58 ?_
    refine ev_iload_n dX7_both_61 1 rfl ?_
    have p10 := h3.1
    have h11 := h3.2
    refine ev_iaload' (v := (μ 20 x1.toNatClampNeg)) kd_20 ln_20 p10 rfl dX7_both_62 ?_
    refine ev_aload_n dX7_both_63 0 rfl (by decide) ?_
    refine ev_getR' fl_7_24 rfl kd_10 rf_10_3 dX7_both_64 ?_
    refine ev_iload_n dX7_both_67 1 rfl ?_
    have p12 := h11.1
    have h13 := h11.2
    refine ev_iaload' (v := (μ 21 x1.toNatClampNeg)) kd_21 ln_21 p12 rfl dX7_both_68 ?_
    have p14 := h13.1
    have h15 := h13.2
    refine e2_callVr (Rl := fun z16 μ17 => soonR μ x7 (μ 20 x1.toNatClampNeg).toNatClampNeg (μ 21 x1.toNatClampNeg).toNatClampNeg z16 μ17) (a := 10) (as := [.int x7, .int (μ 20 x1.toNatClampNeg), .int (μ 21 x1.toNatClampNeg)]) (st := []) ok_X7_soonWith vi_X7_soonWith ml_7_179 hcl_7 kd_10 dX7_both_69 rfl rfl (Nat.le_of_ble_eq_true rfl) (Nat.le_of_ble_eq_true rfl) (by decide) (ct_X7_soonWith (x7) ((μ 20 x1.toNatClampNeg)) ((μ 21 x1.toNatClampNeg)) μ p14) (fun z16 μ17 r18 => ?_)
    have h19 := h15 z16 μ17 r18
    refine ev_istore (lv' := [(0, .ref 10), (1, .int x1), (2, .int x2), (3, .int x3), (4, .int x4), (5, .int x5), (6, .int x6), (7, .int x7), (8, .int z16)]) dX7_both_72 (by decide) [1, 2, 3, 4, 5, 6, 7, 8, 0] rfl ?_
    refine ev_aload_n dX7_both_74 0 rfl (by decide) ?_
    refine ev_aload_n dX7_both_75 0 rfl (by decide) ?_
    refine e2_callV (w := .int ((((1 : Int32) <<< (μ17 10 9 &&& 31)) - 1))) (μ1 := μ17) (a := 10) (as := []) (st := [.ref 10]) ok_X7_allHorses vi_X7_allHorses ml_7_176 hcl_7 kd_10 dX7_both_76 rfl rfl (Nat.le_of_ble_eq_true rfl) (Nat.le_of_ble_eq_true rfl) (by decide) (ct_X7_allHorses μ17) ?_
    refine ev_iload dX7_both_79 7 rfl ?_
    refine ev_iconst (v := (-1)) dX7_both_81 rfl ?_
    refine ev_ixor dX7_both_82 ?_
    refine ev_iand dX7_both_83 ?_
    refine ev_aload_n dX7_both_84 0 rfl (by decide) ?_
    refine ev_getR' fl_7_20 rfl kd_10 rf_10_2 dX7_both_85 ?_
    refine ev_iload_n dX7_both_88 2 rfl ?_
    have p20 := h19.1
    have h21 := h19.2
    refine ev_iaload' (v := (μ17 20 x2.toNatClampNeg)) kd_20 ln_20 p20 rfl dX7_both_89 ?_
    refine ev_aload_n dX7_both_90 0 rfl (by decide) ?_
    refine ev_getR' fl_7_24 rfl kd_10 rf_10_3 dX7_both_91 ?_
    refine ev_iload_n dX7_both_94 2 rfl ?_
    have p22 := h21.1
    have h23 := h21.2
    refine ev_iaload' (v := (μ17 21 x2.toNatClampNeg)) kd_21 ln_21 p22 rfl dX7_both_95 ?_
    have p24 := h23.1
    have h25 := h23.2
    refine e2_callVr (Rl := fun z26 μ27 => soonR μ17 (((((1 : Int32) <<< (μ17 10 9 &&& 31)) - 1)) &&& (x7 ^^^ (-1))) (μ17 20 x2.toNatClampNeg).toNatClampNeg (μ17 21 x2.toNatClampNeg).toNatClampNeg z26 μ27) (a := 10) (as := [.int (((((1 : Int32) <<< (μ17 10 9 &&& 31)) - 1)) &&& (x7 ^^^ (-1))), .int (μ17 20 x2.toNatClampNeg), .int (μ17 21 x2.toNatClampNeg)]) (st := []) ok_X7_soonWith vi_X7_soonWith ml_7_179 hcl_7 kd_10 dX7_both_96 rfl rfl (Nat.le_of_ble_eq_true rfl) (Nat.le_of_ble_eq_true rfl) (by decide) (ct_X7_soonWith ((((((1 : Int32) <<< (μ17 10 9 &&& 31)) - 1)) &&& (x7 ^^^ (-1)))) ((μ17 20 x2.toNatClampNeg)) ((μ17 21 x2.toNatClampNeg)) μ17 p24) (fun z26 μ27 r28 => ?_)
    have h29 := h25 z26 μ27 r28
    refine ev_istore (lv' := [(0, .ref 10), (1, .int x1), (2, .int x2), (3, .int x3), (4, .int x4), (5, .int x5), (6, .int x6), (7, .int x7), (8, .int z16), (9, .int z26)]) dX7_both_99 (by decide) [1, 2, 3, 4, 5, 6, 7, 8, 9, 0] rfl ?_
    refine ev_iload dX7_both_101 8 rfl ?_
    refine ev_iload dX7_both_103 9 rfl ?_
    refine ev_max ml_7_202 dX7_both_105 (Nat.le_of_ble_eq_true rfl) (by decide) ⟨Nat.le_refl _, Nat.le_refl _⟩ ?_
    refine ev_istore (lv' := [(0, .ref 10), (1, .int x1), (2, .int x2), (3, .int x3), (4, .int x4), (5, .int x5), (6, .int x6), (7, .int x7), (8, .int z16), (9, .int z26), (10, .int (imax z16 z26))]) dX7_both_108 (by decide) [1, 2, 3, 4, 5, 6, 7, 8, 9, 10, 0] rfl ?_
    refine ev_iload dX7_both_110 8 rfl ?_
    refine ev_iload dX7_both_112 9 rfl ?_
    refine ev_iadd dX7_both_114 ?_
    refine ev_istore (lv' := [(0, .ref 10), (1, .int x1), (2, .int x2), (3, .int x3), (4, .int x4), (5, .int x5), (6, .int x6), (7, .int x7), (8, .int z16), (9, .int z26), (10, .int (imax z16 z26)), (11, .int (z16 + z26))]) dX7_both_115 (by decide) [1, 2, 3, 4, 5, 6, 7, 8, 9, 10, 11, 0] rfl ?_
    refine ev_iload dX7_both_117 10 rfl ?_
    refine ev_iload dX7_both_119 4 rfl ?_
    refine ev_icmp_lt (tgt := 138) dX7_both_121 rfl (fun c30 => ?_) (fun c30 => ?_)
    · have h31 := h29.1 c30
      refine ev_iload dX7_both_138 10 rfl ?_
      refine ev_istore (lv' := [(0, .ref 10), (1, .int x1), (2, .int x2), (3, .int x3), (4, .int (imax z16 z26)), (5, .int x5), (6, .int x6), (7, .int x7), (8, .int z16), (9, .int z26), (10, .int (imax z16 z26)), (11, .int (z16 + z26))]) dX7_both_140 (by decide) [1, 2, 3, 4, 0, 5, 6, 7, 8, 9, 10, 11] rfl ?_
      refine ev_iload dX7_both_142 11 rfl ?_
      refine ev_istore (lv' := [(0, .ref 10), (1, .int x1), (2, .int x2), (3, .int x3), (4, .int (imax z16 z26)), (5, .int (z16 + z26)), (6, .int x6), (7, .int x7), (8, .int z16), (9, .int z26), (10, .int (imax z16 z26)), (11, .int (z16 + z26))]) dX7_both_144 (by decide) [1, 2, 3, 4, 5, 0, 6, 7, 8, 9, 10, 11] rfl ?_
      refine ev_iload dX7_both_146 7 rfl ?_
      refine ev_istore (lv' := [(0, .ref 10), (1, .int x1), (2, .int x2), (3, .int x3), (4, .int (imax z16 z26)), (5, .int (z16 + z26)), (6, .int x7), (7, .int x7), (8, .int z16), (9, .int z26), (10, .int (imax z16 z26)), (11, .int (z16 + z26))]) dX7_both_148 (by decide) [1, 2, 3, 4, 5, 6, 0, 7, 8, 9, 10, 11] rfl ?_
      refine ev_iinc (v := (x7 + 1)) (lv' := [(0, .ref 10), (1, .int x1), (2, .int x2), (3, .int x3), (4, .int (imax z16 z26)), (5, .int (z16 + z26)), (6, .int x7), (7, .int (x7 + 1)), (8, .int z16), (9, .int z26), (10, .int (imax z16 z26)), (11, .int (z16 + z26))]) dX7_both_150 7 rfl rfl (by decide) [1, 2, 3, 4, 5, 6, 7, 0, 8, 9, 10, 11] rfl ?_
      refine ev_goto (tgt := 45) dX7_both_153 rfl ?_
      refine EvW.less [0, 1, 2, 3, 4, 5, 6, 7] (lv' := [(0, .ref 10), (1, .int x1), (2, .int x2), (3, .int x3), (4, .int (imax z16 z26)), (5, .int (z16 + z26)), (6, .int x7), (7, .int (x7 + 1))]) rfl ?_
      exact h31
    · have h32 := h29.2 c30
      refine ev_iload dX7_both_124 10 rfl ?_
      refine ev_iload dX7_both_126 4 rfl ?_
      refine ev_icmp_ne (tgt := 150) dX7_both_128 rfl (fun c33 => ?_) (fun c33 => ?_)
      · have h34 := h32.1 c33
        refine ev_iinc (v := (x7 + 1)) (lv' := [(0, .ref 10), (1, .int x1), (2, .int x2), (3, .int x3), (4, .int x4), (5, .int x5), (6, .int x6), (7, .int (x7 + 1)), (8, .int z16), (9, .int z26), (10, .int (imax z16 z26)), (11, .int (z16 + z26))]) dX7_both_150 7 rfl rfl (by decide) [1, 2, 3, 4, 5, 6, 7, 0, 8, 9, 10, 11] rfl ?_
        refine ev_goto (tgt := 45) dX7_both_153 rfl ?_
        refine EvW.less [0, 1, 2, 3, 4, 5, 6, 7] (lv' := [(0, .ref 10), (1, .int x1), (2, .int x2), (3, .int x3), (4, .int x4), (5, .int x5), (6, .int x6), (7, .int (x7 + 1))]) rfl ?_
        exact h34
      · have h35 := h32.2 c33
        refine ev_iload dX7_both_131 11 rfl ?_
        refine ev_iload dX7_both_133 5 rfl ?_
        refine ev_icmp_ge (tgt := 150) dX7_both_135 rfl (fun c36 => ?_) (fun c36 => ?_)
        · have h37 := h35.1 c36
          refine ev_iinc (v := (x7 + 1)) (lv' := [(0, .ref 10), (1, .int x1), (2, .int x2), (3, .int x3), (4, .int x4), (5, .int x5), (6, .int x6), (7, .int (x7 + 1)), (8, .int z16), (9, .int z26), (10, .int (imax z16 z26)), (11, .int (z16 + z26))]) dX7_both_150 7 rfl rfl (by decide) [1, 2, 3, 4, 5, 6, 7, 0, 8, 9, 10, 11] rfl ?_
          refine ev_goto (tgt := 45) dX7_both_153 rfl ?_
          refine EvW.less [0, 1, 2, 3, 4, 5, 6, 7] (lv' := [(0, .ref 10), (1, .int x1), (2, .int x2), (3, .int x3), (4, .int x4), (5, .int x5), (6, .int x6), (7, .int (x7 + 1))]) rfl ?_
          exact h37
        · have h38 := h35.2 c36
          refine ev_iload dX7_both_138 10 rfl ?_
          refine ev_istore (lv' := [(0, .ref 10), (1, .int x1), (2, .int x2), (3, .int x3), (4, .int (imax z16 z26)), (5, .int x5), (6, .int x6), (7, .int x7), (8, .int z16), (9, .int z26), (10, .int (imax z16 z26)), (11, .int (z16 + z26))]) dX7_both_140 (by decide) [1, 2, 3, 4, 0, 5, 6, 7, 8, 9, 10, 11] rfl ?_
          refine ev_iload dX7_both_142 11 rfl ?_
          refine ev_istore (lv' := [(0, .ref 10), (1, .int x1), (2, .int x2), (3, .int x3), (4, .int (imax z16 z26)), (5, .int (z16 + z26)), (6, .int x6), (7, .int x7), (8, .int z16), (9, .int z26), (10, .int (imax z16 z26)), (11, .int (z16 + z26))]) dX7_both_144 (by decide) [1, 2, 3, 4, 5, 0, 6, 7, 8, 9, 10, 11] rfl ?_
          refine ev_iload dX7_both_146 7 rfl ?_
          refine ev_istore (lv' := [(0, .ref 10), (1, .int x1), (2, .int x2), (3, .int x3), (4, .int (imax z16 z26)), (5, .int (z16 + z26)), (6, .int x7), (7, .int x7), (8, .int z16), (9, .int z26), (10, .int (imax z16 z26)), (11, .int (z16 + z26))]) dX7_both_148 (by decide) [1, 2, 3, 4, 5, 6, 0, 7, 8, 9, 10, 11] rfl ?_
          refine ev_iinc (v := (x7 + 1)) (lv' := [(0, .ref 10), (1, .int x1), (2, .int x2), (3, .int x3), (4, .int (imax z16 z26)), (5, .int (z16 + z26)), (6, .int x7), (7, .int (x7 + 1)), (8, .int z16), (9, .int z26), (10, .int (imax z16 z26)), (11, .int (z16 + z26))]) dX7_both_150 7 rfl rfl (by decide) [1, 2, 3, 4, 5, 6, 7, 0, 8, 9, 10, 11] rfl ?_
          refine ev_goto (tgt := 45) dX7_both_153 rfl ?_
          refine EvW.less [0, 1, 2, 3, 4, 5, 6, 7] (lv' := [(0, .ref 10), (1, .int x1), (2, .int x2), (3, .int x3), (4, .int (imax z16 z26)), (5, .int (z16 + z26)), (6, .int x7), (7, .int (x7 + 1))]) rfl ?_
          exact h38
theorem lp_X7_both {G : GW} {α μ0 : Mem} (hf : WF α) {x1 x2 x3 : Int32} (c1 : inB x1 0 (α 0 1 - 1) = true) (c2 : inB x2 0 (α 0 1 - 1) = true) : ∀ j k (μ : Mem), k + j = 2 ^ aN α → VX α μ → keepM μ0 μ → Ev2 G mX7_both 7 45 [(0, .ref 10), (1, .int x1), (2, .int x2), (3, .int x3), (4, .int (bothA α (rFA α x1) (rTA α x1) (rFA α x2) (rTA α x2) k).1), (5, .int (bothA α (rFA α x1) (rTA α x1) (rFA α x2) (rTA α x2) k).2.1), (6, .int (bothA α (rFA α x1) (rTA α x1) (rFA α x2) (rTA α x2) k).2.2), (7, .int (nI k))] [] μ (fun v μ' => v = some (.int (sel3 x3 (bothA α (rFA α x1) (rTA α x1) (rFA α x2) (rTA α x2) (2 ^ aN α)).1 (bothA α (rFA α x1) (rTA α x1) (rFA α x2) (rTA α x2) (2 ^ aN α)).2.1 (bothA α (rFA α x1) (rTA α x1) (rFA α x2) (rTA α x2) (2 ^ aN α)).2.2)) ∧ VX α μ' ∧ keepM μ0 μ') := by
  intro j
  induction j with
  | zero =>
    intro k μ hk h hm
    obtain rfl : k = 2 ^ aN α := by omega
    refine sg_X7_both_45 ⟨fun _ => ⟨fun c => ⟨fun d => ⟨?_, h, hm⟩, fun d => ⟨?_, h, hm⟩⟩, fun c => ⟨?_, h, hm⟩⟩, fun c => ?_⟩
    · rw [sel3_2 c d]
    · rw [sel3_1 c d]
    · rw [sel3_0 c]
    · rw [VX.all h.1] at c
      exact absurd (sets_out hf.1) c
  | succ j ih =>
    intro k μ hk h hm
    refine sg_X7_both_45 ⟨fun c => ?_, fun _ => ?_⟩
    · rw [VX.all h.1] at c
      exact absurd c (sets_in hf.1 (by omega))
    · obtain ⟨v1, w1, w2, e1, e2⟩ := ride_at hf h.1 c1
      have hs := setOK_nI (n := aN α) hf.1.1.2 (k := k) (by omega)
      refine ⟨v1, v1, ⟨w1, w2, h.go hf hs⟩, fun x ν hx => ?_⟩
      rw [e1, e2] at hx
      obtain ⟨ex, h1, k1, -⟩ := soon_shown hf h hs hx
      obtain ⟨v2, w3, w4, e3, e4⟩ := ride_at hf h1.1 c2
      have hs2 := setOK_and (allA_ok hf.1) (nI k ^^^ (-1))
      rw [VX.all h1.1]
      refine ⟨v2, v2, ⟨w3, w4, h1.go hf hs2⟩, fun y ξ hy => ?_⟩
      rw [e3, e4] at hy
      obtain ⟨ey, h2, k2, -⟩ := soon_shown hf h1 hs2 hy
      have hh := ih (k + 1) ξ (by omega) h2 ((hm.tr k1).tr k2)
      rw [bothA_succ, ← ex, ← ey, ← nI_1] at hh
      unfold stepB at hh
      refine ⟨fun c => ?_, fun c => ⟨fun d => ?_, fun d => ⟨fun e => ?_, fun e => ?_⟩⟩⟩
      · rw [if_pos c] at hh
        exact hh
      · rw [if_neg c, if_neg d] at hh
        exact hh
      · rw [if_neg c, if_pos d, if_pos e] at hh
        exact hh
      · rw [if_neg c, if_pos d, if_neg e] at hh
        exact hh
theorem pb_X7_both {G : GW} {α μ : Mem} (hf : WF α) (h : VX α μ) (x1 x2 x3 : Int32) : pubX G mX7_both 7 [(0, .ref 10), (1, .int x1), (2, .int x2), (3, .int x3)] α μ (.int (sp_both α x1 x2 x3)) α := by
  have cR : μ 10 10 = α 0 1 := h.1.1.2.1
  refine sg_X7_both_0 ?_
  rw [cR]
  unfold sp_both
  refine ⟨fun c => ?_, fun c => ⟨fun d => ⟨fun e => ?_, fun e => ?_⟩, fun d => ?_⟩⟩
  · rw [if_neg (by rw [c]; decide)]
    exact ⟨rfl, h, keepM.rf μ⟩
  · rw [if_pos c, if_pos d, if_pos e]
    exact lp_X7_both hf c d (2 ^ aN α) 0 μ (by omega) h (keepM.rf μ)
  · rw [if_pos c, if_pos d, if_neg (by rw [e]; decide)]
    exact ⟨rfl, h, keepM.rf μ⟩
  · rw [if_pos c, if_neg (by rw [d]; decide)]
    exact ⟨rfl, h, keepM.rf μ⟩
/-! needed -/
def stepN (s : Int32 × Int32) (t h : Int32) : Int32 × Int32 := if t ≤ s.1 then s else (t, h)
def needA (α : Mem) (a b : Nat) : Nat → Int32 × Int32
  | 0 => (soonA α (allA α) a b, -1)
  | h + 1 => stepN (needA α a b h) (soonA α (allA α &&& ((1 <<< (nI h &&& 31)) ^^^ (-1))) a b) (nI h)
theorem needA_succ (α : Mem) (a b h : Nat) : needA α a b (h + 1) = stepN (needA α a b h) (soonA α (allA α &&& ((1 <<< (nI h &&& 31)) ^^^ (-1))) a b) (nI h) := rfl
theorem needA_01 (α : Mem) (a b : Nat) : (needA α a b 0).1 = soonA α (allA α) a b := by rw [needA]
theorem needA_02 (α : Mem) (a b : Nat) : (needA α a b 0).2 = -1 := by rw [needA]
def sel2 (what a b : Int32) : Int32 := if what = 0 then a else b
def sp_needed (α : Mem) (x y what : Int32) : Int32 := if inB x 0 6 = true then (if inB y 0 6 = true then (if inB what 0 1 = true then sel2 what (needA α x.toNatClampNeg y.toNatClampNeg (aN α)).2 (needA α x.toNatClampNeg y.toNatClampNeg (aN α)).1 else -7) else -5) else -5
theorem sg_X7_needed_0 {G : GW} {K : Option Value → Mem → Prop} {μ : Mem} {x1 x2 x3 : Int32}  (h : (((inB x1 0 6) = false) → K (some (.int (-5))) μ) ∧ (((inB x1 0 6) = true) → (((inB x2 0 6) = true) → (((inB x3 (0 : Int32) (1 : Int32)) = true) → (vp_in x1 7 ∧ vp_in x2 7 ∧ goOK (goX μ) ((((1 : Int32) <<< (μ 10 9 &&& 31)) - 1))) ∧ ∀ (z12 : Int32) (μ13 : Mem), (soonR μ ((((1 : Int32) <<< (μ 10 9 &&& 31)) - 1)) x1.toNatClampNeg x2.toNatClampNeg z12 μ13) → Ev2 G mX7_needed 7 47 [(0, .ref 10), (1, .int x1), (2, .int x2), (3, .int x3), (4, .int z12), (5, .int (-1)), (6, .int 0)] [] μ13 K) ∧ (((inB x3 (0 : Int32) (1 : Int32)) = false) → K (some (.int (-7))) μ)) ∧ (((inB x2 0 6) = false) → K (some (.int (-5))) μ))) : Ev2 G mX7_needed 7 0 [(0, .ref 10), (1, .int x1), (2, .int x2), (3, .int x3)] [] μ K := by
  refine ev_iload_n dX7_needed_0 1 rfl ?_
  refine e2_callS (w := .int (bi (inB x1 0 6))) (μ1 := μ) (as := [.int x1]) (st := []) ok_X7_isPlace sv_X7_isPlace ml_7_94 dX7_needed_1 rfl rfl (Nat.le_of_ble_eq_true rfl) (Nat.le_of_ble_eq_true rfl) (by decide) (ct_X7_isPlace (x1) μ) ?_
  refine ev_ifeq_bi (tgt := 14) dX7_needed_4 rfl (fun c1 => ?_) (fun c1 => ?_)
  · have h2 := h.1 c1
    refine ev_bipush (v := (-5)) dX7_needed_14 rfl ?_
    exact ev_ireturn dX7_needed_16 rfl True.intro rfl rfl ⟨rfl, h2⟩
  · have h3 := h.2 c1
    refine ev_iload_n dX7_needed_7 2 rfl ?_
    refine e2_callS (w := .int (bi (inB x2 0 6))) (μ1 := μ) (as := [.int x2]) (st := []) ok_X7_isPlace sv_X7_isPlace ml_7_94 dX7_needed_8 rfl rfl (Nat.le_of_ble_eq_true rfl) (Nat.le_of_ble_eq_true rfl) (by decide) (ct_X7_isPlace (x2) μ) ?_
    refine ev_ifne_bi (tgt := 17) dX7_needed_11 rfl (fun c4 => ?_) (fun c4 => ?_)
    · have h5 := h3.1 c4
      refine ev_iload_n dX7_needed_17 3 rfl ?_
      refine ev_iconst (v := 0) dX7_needed_18 rfl ?_
      refine ev_iconst (v := 1) dX7_needed_19 rfl ?_
      refine e2_callS (w := .int (bi (inB x3 (0 : Int32) (1 : Int32)))) (μ1 := μ) (as := [.int x3, .int 0, .int 1]) (st := []) ok_X7_isWithin sv_X7_isWithin ml_7_86 dX7_needed_20 rfl rfl (Nat.le_of_ble_eq_true rfl) (Nat.le_of_ble_eq_true rfl) (by decide) (ct_X7_isWithin (x3) (0) (1) μ) ?_
      refine ev_ifne_bi (tgt := 29) dX7_needed_23 rfl (fun c7 => ?_) (fun c7 => ?_)
      · have h8 := h5.1 c7
        refine ev_aload_n dX7_needed_29 0 rfl (by decide) ?_
        refine ev_aload_n dX7_needed_30 0 rfl (by decide) ?_
        refine e2_callV (w := .int ((((1 : Int32) <<< (μ 10 9 &&& 31)) - 1))) (μ1 := μ) (a := 10) (as := []) (st := [.ref 10]) ok_X7_allHorses vi_X7_allHorses ml_7_176 hcl_7 kd_10 dX7_needed_31 rfl rfl (Nat.le_of_ble_eq_true rfl) (Nat.le_of_ble_eq_true rfl) (by decide) (ct_X7_allHorses μ) ?_
        refine ev_iload_n dX7_needed_34 1 rfl ?_
        refine ev_iload_n dX7_needed_35 2 rfl ?_
        have p10 := h8.1
        have h11 := h8.2
        refine e2_callVr (Rl := fun z12 μ13 => soonR μ ((((1 : Int32) <<< (μ 10 9 &&& 31)) - 1)) x1.toNatClampNeg x2.toNatClampNeg z12 μ13) (a := 10) (as := [.int ((((1 : Int32) <<< (μ 10 9 &&& 31)) - 1)), .int x1, .int x2]) (st := []) ok_X7_soonWith vi_X7_soonWith ml_7_179 hcl_7 kd_10 dX7_needed_36 rfl rfl (Nat.le_of_ble_eq_true rfl) (Nat.le_of_ble_eq_true rfl) (by decide) (ct_X7_soonWith (((((1 : Int32) <<< (μ 10 9 &&& 31)) - 1))) (x1) (x2) μ p10) (fun z12 μ13 r14 => ?_)
        have h15 := h11 z12 μ13 r14
        refine ev_istore (lv' := [(0, .ref 10), (1, .int x1), (2, .int x2), (3, .int x3), (4, .int z12)]) dX7_needed_39 (by decide) [1, 2, 3, 4, 0] rfl ?_
        refine ev_iconst (v := (-1)) dX7_needed_41 rfl ?_
        refine ev_istore (lv' := [(0, .ref 10), (1, .int x1), (2, .int x2), (3, .int x3), (4, .int z12), (5, .int (-1))]) dX7_needed_42 (by decide) [1, 2, 3, 4, 5, 0] rfl ?_
        refine ev_iconst (v := 0) dX7_needed_44 rfl ?_
        refine ev_istore (lv' := [(0, .ref 10), (1, .int x1), (2, .int x2), (3, .int x3), (4, .int z12), (5, .int (-1)), (6, .int 0)]) dX7_needed_45 (by decide) [1, 2, 3, 4, 5, 6, 0] rfl ?_
        exact h15
      · have h9 := h5.2 c7
        refine ev_bipush (v := (-7)) dX7_needed_26 rfl ?_
        exact ev_ireturn dX7_needed_28 rfl True.intro rfl rfl ⟨rfl, h9⟩
    · have h6 := h3.2 c4
      refine ev_bipush (v := (-5)) dX7_needed_14 rfl ?_
      exact ev_ireturn dX7_needed_16 rfl True.intro rfl rfl ⟨rfl, h6⟩
theorem sg_X7_needed_47 {G : GW} {K : Option Value → Mem → Prop} {μ : Mem} {x1 x2 x3 x4 x5 x6 : Int32}  (h : (((μ 10 9) ≤ x6) → ((¬ x3 = 0) → K (some (.int x4)) μ) ∧ ((x3 = 0) → K (some (.int x5)) μ)) ∧ ((¬ ((μ 10 9) ≤ x6)) → (vp_in x1 7 ∧ vp_in x2 7 ∧ goOK (goX μ) (((((1 : Int32) <<< (μ 10 9 &&& 31)) - 1)) &&& (((1 : Int32) <<< (x6 &&& 31)) ^^^ (-1)))) ∧ ∀ (z9 : Int32) (μ10 : Mem), (soonR μ (((((1 : Int32) <<< (μ 10 9 &&& 31)) - 1)) &&& (((1 : Int32) <<< (x6 &&& 31)) ^^^ (-1))) x1.toNatClampNeg x2.toNatClampNeg z9 μ10) → ((z9 ≤ x4) → Ev2 G mX7_needed 7 47 [(0, .ref 10), (1, .int x1), (2, .int x2), (3, .int x3), (4, .int x4), (5, .int x5), (6, .int (x6 + 1))] [] μ10 K) ∧ ((¬ (z9 ≤ x4)) → Ev2 G mX7_needed 7 47 [(0, .ref 10), (1, .int x1), (2, .int x2), (3, .int x3), (4, .int z9), (5, .int x6), (6, .int (x6 + 1))] [] μ10 K))) : Ev2 G mX7_needed 7 47 [(0, .ref 10), (1, .int x1), (2, .int x2), (3, .int x3), (4, .int x4), (5, .int x5), (6, .int x6)] [] μ K := by
  refine ev_iload dX7_needed_47 6 rfl ?_
  refine ev_aload_n dX7_needed_49 0 rfl (by decide) ?_
  refine ev_getI' (v := (μ 10 9)) fl_7_60 rfl kd_10 rfl dX7_needed_50 ?_
  refine ev_icmp_ge (tgt := 96) dX7_needed_53 rfl (fun c1 => ?_) (fun c1 => ?_)
  · have h2 := h.1 c1
    refine ev_iload_n dX7_needed_96 3 rfl ?_
    refine ev_if_ne (tgt := 105) dX7_needed_97 rfl (fun c4 => ?_) (fun c4 => ?_)
    · have h5 := h2.1 c4
      refine ev_iload dX7_needed_105 4 rfl ?_
      exact ev_ireturn dX7_needed_107 rfl True.intro rfl rfl ⟨rfl, h5⟩
    · have h6 := h2.2 c4
      refine ev_iload dX7_needed_100 5 rfl ?_
      refine ev_goto (tgt := 107) dX7_needed_102 rfl ?_
      exact ev_ireturn dX7_needed_107 rfl True.intro rfl rfl ⟨rfl, h6⟩
  · have h3 := h.2 c1
    refine ev_aload_n dX7_needed_56 0 rfl (by decide) ?_
    refine ev_aload_n dX7_needed_57 0 rfl (by decide) ?_
    refine e2_callV (w := .int ((((1 : Int32) <<< (μ 10 9 &&& 31)) - 1))) (μ1 := μ) (a := 10) (as := []) (st := [.ref 10]) ok_X7_allHorses vi_X7_allHorses ml_7_176 hcl_7 kd_10 dX7_needed_58 rfl rfl (Nat.le_of_ble_eq_true rfl) (Nat.le_of_ble_eq_true rfl) (by decide) (ct_X7_allHorses μ) ?_
    refine ev_iconst (v := 1) dX7_needed_61 rfl ?_
    refine ev_iload dX7_needed_62 6 rfl ?_
    refine ev_ishl dX7_needed_64 ?_
    refine ev_iconst (v := (-1)) dX7_needed_65 rfl ?_
    refine ev_ixor dX7_needed_66 ?_
    refine ev_iand dX7_needed_67 ?_
    refine ev_iload_n dX7_needed_68 1 rfl ?_
    refine ev_iload_n dX7_needed_69 2 rfl ?_
    have p7 := h3.1
    have h8 := h3.2
    refine e2_callVr (Rl := fun z9 μ10 => soonR μ (((((1 : Int32) <<< (μ 10 9 &&& 31)) - 1)) &&& (((1 : Int32) <<< (x6 &&& 31)) ^^^ (-1))) x1.toNatClampNeg x2.toNatClampNeg z9 μ10) (a := 10) (as := [.int (((((1 : Int32) <<< (μ 10 9 &&& 31)) - 1)) &&& (((1 : Int32) <<< (x6 &&& 31)) ^^^ (-1))), .int x1, .int x2]) (st := []) ok_X7_soonWith vi_X7_soonWith ml_7_179 hcl_7 kd_10 dX7_needed_70 rfl rfl (Nat.le_of_ble_eq_true rfl) (Nat.le_of_ble_eq_true rfl) (by decide) (ct_X7_soonWith ((((((1 : Int32) <<< (μ 10 9 &&& 31)) - 1)) &&& (((1 : Int32) <<< (x6 &&& 31)) ^^^ (-1)))) (x1) (x2) μ p7) (fun z9 μ10 r11 => ?_)
    have h12 := h8 z9 μ10 r11
    refine ev_istore (lv' := [(0, .ref 10), (1, .int x1), (2, .int x2), (3, .int x3), (4, .int x4), (5, .int x5), (6, .int x6), (7, .int z9)]) dX7_needed_73 (by decide) [1, 2, 3, 4, 5, 6, 7, 0] rfl ?_
    refine ev_iload dX7_needed_75 7 rfl ?_
    refine ev_iload dX7_needed_77 4 rfl ?_
    refine ev_icmp_le (tgt := 90) dX7_needed_79 rfl (fun c13 => ?_) (fun c13 => ?_)
    · have h14 := h12.1 c13
      refine ev_iinc (v := (x6 + 1)) (lv' := [(0, .ref 10), (1, .int x1), (2, .int x2), (3, .int x3), (4, .int x4), (5, .int x5), (6, .int (x6 + 1)), (7, .int z9)]) dX7_needed_90 6 rfl rfl (by decide) [1, 2, 3, 4, 5, 6, 0, 7] rfl ?_
      refine ev_goto (tgt := 47) dX7_needed_93 rfl ?_
      refine EvW.less [0, 1, 2, 3, 4, 5, 6] (lv' := [(0, .ref 10), (1, .int x1), (2, .int x2), (3, .int x3), (4, .int x4), (5, .int x5), (6, .int (x6 + 1))]) rfl ?_
      exact h14
    · have h15 := h12.2 c13
      refine ev_iload dX7_needed_82 7 rfl ?_
      refine ev_istore (lv' := [(0, .ref 10), (1, .int x1), (2, .int x2), (3, .int x3), (4, .int z9), (5, .int x5), (6, .int x6), (7, .int z9)]) dX7_needed_84 (by decide) [1, 2, 3, 4, 0, 5, 6, 7] rfl ?_
      refine ev_iload dX7_needed_86 6 rfl ?_
      refine ev_istore (lv' := [(0, .ref 10), (1, .int x1), (2, .int x2), (3, .int x3), (4, .int z9), (5, .int x6), (6, .int x6), (7, .int z9)]) dX7_needed_88 (by decide) [1, 2, 3, 4, 5, 0, 6, 7] rfl ?_
      refine ev_iinc (v := (x6 + 1)) (lv' := [(0, .ref 10), (1, .int x1), (2, .int x2), (3, .int x3), (4, .int z9), (5, .int x6), (6, .int (x6 + 1)), (7, .int z9)]) dX7_needed_90 6 rfl rfl (by decide) [1, 2, 3, 4, 5, 6, 0, 7] rfl ?_
      refine ev_goto (tgt := 47) dX7_needed_93 rfl ?_
      refine EvW.less [0, 1, 2, 3, 4, 5, 6] (lv' := [(0, .ref 10), (1, .int x1), (2, .int x2), (3, .int x3), (4, .int z9), (5, .int x6), (6, .int (x6 + 1))]) rfl ?_
      exact h15
theorem lp_X7_needed {G : GW} {α μ0 : Mem} (hf : WF α) {a b : Nat} (ha : a < 7) (hb : b < 7) {x3 : Int32} : ∀ j i (μ : Mem), i + j = aN α → VX α μ → keepM μ0 μ → Ev2 G mX7_needed 7 47 [(0, .ref 10), (1, .int (nI a)), (2, .int (nI b)), (3, .int x3), (4, .int (needA α a b i).1), (5, .int (needA α a b i).2), (6, .int (nI i))] [] μ (fun v μ' => v = some (.int (sel2 x3 (needA α a b (aN α)).2 (needA α a b (aN α)).1)) ∧ VX α μ' ∧ keepM μ0 μ') := by
  have hn7 := hf.1.1.2
  intro j
  induction j with
  | zero =>
    intro i μ hi h hm
    obtain rfl : i = aN α := by omega
    have cN : μ 10 9 = nI (aN α) := h.1.1.1.trans hf.1.1.1
    refine sg_X7_needed_47 ⟨fun _ => ⟨fun c => ⟨?_, h, hm⟩, fun c => ⟨?_, h, hm⟩⟩, fun c => ?_⟩
    · unfold sel2; rw [if_neg c]
    · unfold sel2; rw [if_pos c]
    · rw [cN] at c
      exact absurd (nI_le (Nat.le_refl _) (by omega)) c
  | succ j ih =>
    intro i μ hi h hm
    have cN : μ 10 9 = nI (aN α) := h.1.1.1.trans hf.1.1.1
    refine sg_X7_needed_47 ⟨fun c => ?_, fun _ => ?_⟩
    · rw [cN] at c
      exact absurd c (nI_ge (by omega) (by omega))
    · rw [VX.all h.1]
      have hs := setOK_and (allA_ok hf.1) ((1 <<< (nI i &&& 31)) ^^^ (-1))
      refine ⟨⟨vp_nI ha (by omega), vp_nI hb (by omega), h.go hf hs⟩, fun x ν hx => ?_⟩
      rw [ix_nI (by omega), ix_nI (by omega)] at hx
      obtain ⟨ex, h1, k1, -⟩ := soon_shown hf h hs hx
      have hh := ih (i + 1) ν (by omega) h1 (hm.tr k1)
      rw [needA_succ, ← ex, ← nI_1] at hh
      unfold stepN at hh
      refine ⟨fun c => ?_, fun c => ?_⟩
      · rw [if_pos c] at hh
        exact hh
      · rw [if_neg c] at hh
        exact hh
theorem pb_X7_needed {G : GW} {α μ : Mem} (hf : WF α) (h : VX α μ) (x1 x2 x3 : Int32) : pubX G mX7_needed 7 [(0, .ref 10), (1, .int x1), (2, .int x2), (3, .int x3)] α μ (.int (sp_needed α x1 x2 x3)) α := by
  have hs := allA_ok hf.1
  refine sg_X7_needed_0 ?_
  unfold sp_needed
  refine ⟨fun c => ?_, fun c => ⟨fun d => ⟨fun e => ?_, fun e => ?_⟩, fun d => ?_⟩⟩
  · rw [if_neg (by rw [c]; decide)]
    exact ⟨rfl, h, keepM.rf μ⟩
  · rw [if_pos c, if_pos d, if_pos e, VX.all h.1]
    obtain ⟨a, ha, rfl⟩ := inB_nI (m := 6) (by omega) c
    obtain ⟨b, hb, rfl⟩ := inB_nI (m := 6) (by omega) d
    rw [ix_nI (i := a) (by omega), ix_nI (i := b) (by omega)]
    refine ⟨⟨vp_nI (by omega) (by omega), vp_nI (by omega) (by omega), h.go hf hs⟩, fun x ν hx => ?_⟩
    obtain ⟨ex, h1, k1, -⟩ := soon_shown hf h hs hx
    have hh := lp_X7_needed (G := G) hf (a := a) (b := b) (by omega) (by omega) (x3 := x3) (aN α) 0 ν (by omega) h1 k1
    rw [needA_01, needA_02, ← ex] at hh
    exact hh
  · rw [if_pos c, if_pos d, if_neg (by rw [e]; decide)]
    exact ⟨rfl, h, keepM.rf μ⟩
  · rw [if_pos c, if_neg (by rw [d]; decide)]
    exact ⟨rfl, h, keepM.rf μ⟩
/-! again -/
def agA (α : Mem) (S : Int32) : Nat → Int32
  | 0 => 0
  | h + 1 => if bitB S (nI h) = true then imax (agA α S h) (outA α h + homeA α h) else agA α S h
def sp_again (α : Mem) (x y : Int32) : Int32 := if inB x 0 6 = true then (if inB y 0 6 = true then agA α (wayHs (runA α (allA α) y x.toNatClampNeg) 0 (wayA α x.toNatClampNeg y.toNatClampNeg)) (aN α) else -5) else -5
theorem sg_X7_again_0 {G : GW} {K : Option Value → Mem → Prop} {μ : Mem} {x1 x2 : Int32}  (h : (((inB x1 0 6) = false) → K (some (.int (-5))) μ) ∧ (((inB x1 0 6) = true) → (((inB x2 0 6) = true) → (vp_in x1 7 ∧ vp_in x2 7 ∧ goOK (goX μ) ((((1 : Int32) <<< (μ 10 9 &&& 31)) - 1))) ∧ ∀ (z9 : Int32) (μ10 : Mem), (soonR μ ((((1 : Int32) <<< (μ 10 9 &&& 31)) - 1)) x1.toNatClampNeg x2.toNatClampNeg z9 μ10) → (vp_in x2 7 ∧ chainOK (get4 27 μ10)) ∧ ∀ μ15 : Mem, (traceR μ10 (get4 27 μ10) x2.toNatClampNeg μ15) → Ev2 G mX7_again 7 41 [(0, .ref 10), (3, .int 0), (4, .int 0)] [] μ15 K) ∧ (((inB x2 0 6) = false) → K (some (.int (-5))) μ))) : Ev2 G mX7_again 7 0 [(0, .ref 10), (1, .int x1), (2, .int x2)] [] μ K := by
  refine ev_iload_n dX7_again_0 1 rfl ?_
  refine e2_callS (w := .int (bi (inB x1 0 6))) (μ1 := μ) (as := [.int x1]) (st := []) ok_X7_isPlace sv_X7_isPlace ml_7_94 dX7_again_1 rfl rfl (Nat.le_of_ble_eq_true rfl) (Nat.le_of_ble_eq_true rfl) (by decide) (ct_X7_isPlace (x1) μ) ?_
  refine ev_ifeq_bi (tgt := 14) dX7_again_4 rfl (fun c1 => ?_) (fun c1 => ?_)
  · have h2 := h.1 c1
    refine ev_bipush (v := (-5)) dX7_again_14 rfl ?_
    exact ev_ireturn dX7_again_16 rfl True.intro rfl rfl ⟨rfl, h2⟩
  · have h3 := h.2 c1
    refine ev_iload_n dX7_again_7 2 rfl ?_
    refine e2_callS (w := .int (bi (inB x2 0 6))) (μ1 := μ) (as := [.int x2]) (st := []) ok_X7_isPlace sv_X7_isPlace ml_7_94 dX7_again_8 rfl rfl (Nat.le_of_ble_eq_true rfl) (Nat.le_of_ble_eq_true rfl) (by decide) (ct_X7_isPlace (x2) μ) ?_
    refine ev_ifne_bi (tgt := 17) dX7_again_11 rfl (fun c4 => ?_) (fun c4 => ?_)
    · have h5 := h3.1 c4
      refine ev_aload_n dX7_again_17 0 rfl (by decide) ?_
      refine ev_aload_n dX7_again_18 0 rfl (by decide) ?_
      refine e2_callV (w := .int ((((1 : Int32) <<< (μ 10 9 &&& 31)) - 1))) (μ1 := μ) (a := 10) (as := []) (st := [.ref 10]) ok_X7_allHorses vi_X7_allHorses ml_7_176 hcl_7 kd_10 dX7_again_19 rfl rfl (Nat.le_of_ble_eq_true rfl) (Nat.le_of_ble_eq_true rfl) (by decide) (ct_X7_allHorses μ) ?_
      refine ev_iload_n dX7_again_22 1 rfl ?_
      refine ev_iload_n dX7_again_23 2 rfl ?_
      have p7 := h5.1
      have h8 := h5.2
      refine e2_callVr (Rl := fun z9 μ10 => soonR μ ((((1 : Int32) <<< (μ 10 9 &&& 31)) - 1)) x1.toNatClampNeg x2.toNatClampNeg z9 μ10) (a := 10) (as := [.int ((((1 : Int32) <<< (μ 10 9 &&& 31)) - 1)), .int x1, .int x2]) (st := []) ok_X7_soonWith vi_X7_soonWith ml_7_179 hcl_7 kd_10 dX7_again_24 rfl rfl (Nat.le_of_ble_eq_true rfl) (Nat.le_of_ble_eq_true rfl) (by decide) (ct_X7_soonWith (((((1 : Int32) <<< (μ 10 9 &&& 31)) - 1))) (x1) (x2) μ p7) (fun z9 μ10 r11 => ?_)
      have h12 := h8 z9 μ10 r11
      refine ev_pop dX7_again_27 rfl ?_
      refine ev_aload_n dX7_again_28 0 rfl (by decide) ?_
      refine ev_getR' fl_7_43 rfl kd_10 rf_10_6 dX7_again_29 ?_
      refine ev_iload_n dX7_again_32 2 rfl ?_
      have p13 := h12.1
      have h14 := h12.2
      refine e2_callVrv (Rl := fun μ15 => traceR μ10 (get4 27 μ10) x2.toNatClampNeg μ15) (a := 26) (as := [.int x2]) (st := []) ok_X3_traceTo vi_X3_traceTo ml_7_183 hcl_3 kd_26 dX7_again_33 rfl rfl (Nat.le_of_ble_eq_true rfl) (Nat.le_of_ble_eq_true rfl) (by decide) (ct_X3_traceTo (x2) μ10 p13) (fun μ15 r16 => ?_)
      have h17 := h14 μ15 r16
      refine ev_iconst (v := 0) dX7_again_36 rfl ?_
      refine ev_istore_n (lv' := [(0, .ref 10), (1, .int x1), (2, .int x2), (3, .int 0)]) dX7_again_37 (by decide) [1, 2, 3, 0] rfl ?_
      refine ev_iconst (v := 0) dX7_again_38 rfl ?_
      refine ev_istore (lv' := [(0, .ref 10), (1, .int x1), (2, .int x2), (3, .int 0), (4, .int 0)]) dX7_again_39 (by decide) [1, 2, 3, 4, 0] rfl ?_
      refine EvW.less [0, 3, 4] (lv' := [(0, .ref 10), (3, .int 0), (4, .int 0)]) rfl ?_
      exact h17
    · have h6 := h3.2 c4
      refine ev_bipush (v := (-5)) dX7_again_14 rfl ?_
      exact ev_ireturn dX7_again_16 rfl True.intro rfl rfl ⟨rfl, h6⟩
theorem sg_X7_again_41 {G : GW} {K : Option Value → Mem → Prop} {μ : Mem} {x3 x4 : Int32}  (h : (((μ 10 9) ≤ x4) → K (some (.int x3)) μ) ∧ ((¬ ((μ 10 9) ≤ x4)) → (((bitB (μ 26 6) x4) = false) → Ev2 G mX7_again 7 41 [(0, .ref 10), (3, .int x3), (4, .int (x4 + 1))] [] μ K) ∧ (((bitB (μ 26 6) x4) = true) → (vp_in x4 7) ∧ (vp_in x4 7) ∧ ∀ y11 : Int32, y11 = (imax x3 ((outF (μ (43 + x4.toNatClampNeg) 0) (μ (43 + x4.toNatClampNeg) 4) (μ (43 + x4.toNatClampNeg) 6)) + (homeF (μ (43 + x4.toNatClampNeg) 0) (μ (43 + x4.toNatClampNeg) 4) (μ (43 + x4.toNatClampNeg) 7)))) → Ev2 G mX7_again 7 41 [(0, .ref 10), (3, .int y11), (4, .int (x4 + 1))] [] μ K))) : Ev2 G mX7_again 7 41 [(0, .ref 10), (3, .int x3), (4, .int x4)] [] μ K := by
  refine ev_iload dX7_again_41 2 rfl ?_
  refine ev_aload_n dX7_again_43 0 rfl (by decide) ?_
  refine ev_getI' (v := (μ 10 9)) fl_7_60 rfl kd_10 rfl dX7_again_44 ?_
  refine ev_icmp_ge (tgt := 97) dX7_again_47 rfl (fun c1 => ?_) (fun c1 => ?_)
  · have h2 := h.1 c1
    refine ev_iload_n dX7_again_97 1 rfl ?_
    exact ev_ireturn dX7_again_98 rfl True.intro rfl rfl ⟨rfl, h2⟩
  · have h3 := h.2 c1
    refine ev_aload_n dX7_again_50 0 rfl (by decide) ?_
    refine ev_getR' fl_7_43 rfl kd_10 rf_10_6 dX7_again_51 ?_
    refine ev_getI' (v := (μ 26 6)) fl_7_186 rfl kd_26 rfl dX7_again_54 ?_
    refine ev_iload dX7_again_57 2 rfl ?_
    refine e2_callS (w := .int (bi (bitB (μ 26 6) x4))) (μ1 := μ) (as := [.int (μ 26 6), .int x4]) (st := []) ok_X7_isIn sv_X7_isIn ml_7_220 dX7_again_59 rfl rfl (Nat.le_of_ble_eq_true rfl) (Nat.le_of_ble_eq_true rfl) (by decide) (ct_X7_isIn ((μ 26 6)) (x4) μ) ?_
    refine ev_ifeq_bi (tgt := 91) dX7_again_62 rfl (fun c4 => ?_) (fun c4 => ?_)
    · have h5 := h3.1 c4
      refine ev_iinc (v := (x4 + 1)) (lv' := [(0, .ref 10), (3, .int x3), (4, .int (x4 + 1))]) dX7_again_91 2 rfl rfl (by decide) [1, 2, 0] rfl ?_
      refine ev_goto (tgt := 41) dX7_again_94 rfl ?_
      exact h5
    · have h6 := h3.2 c4
      refine ev_iload_n dX7_again_65 1 rfl ?_
      refine ev_aload_n dX7_again_66 0 rfl (by decide) ?_
      refine ev_getR' fl_7_16 rfl kd_10 rf_10_1 dX7_again_67 ?_
      refine ev_iload dX7_again_70 2 rfl ?_
      have p7 := h6.1
      have h8 := h6.2
      refine ev_aaload' (k := 5) kd_19 (by omega) ln_19 p7 (raH p7) dX7_again_72 ?_
      refine e2_callV (w := .int (outF (μ (43 + x4.toNatClampNeg) 0) (μ (43 + x4.toNatClampNeg) 4) (μ (43 + x4.toNatClampNeg) 6))) (μ1 := μ) (a := (43 + x4.toNatClampNeg)) (as := []) (st := [.int x3]) ok_X0_out vi_X0_out ml_7_166 hcl_0 (kdHo (isH p7)) dX7_again_73 rfl rfl (Nat.le_of_ble_eq_true rfl) (Nat.le_of_ble_eq_true rfl) (by decide) (ct_X0_out (43 + x4.toNatClampNeg) (isH p7) μ) ?_
      refine ev_aload_n dX7_again_76 0 rfl (by decide) ?_
      refine ev_getR' fl_7_16 rfl kd_10 rf_10_1 dX7_again_77 ?_
      refine ev_iload dX7_again_80 2 rfl ?_
      have p9 := h8.1
      have h10 := h8.2
      refine ev_aaload' (k := 5) kd_19 (by omega) ln_19 p9 (raH p9) dX7_again_82 ?_
      refine e2_callV (w := .int (homeF (μ (43 + x4.toNatClampNeg) 0) (μ (43 + x4.toNatClampNeg) 4) (μ (43 + x4.toNatClampNeg) 7))) (μ1 := μ) (a := (43 + x4.toNatClampNeg)) (as := []) (st := [.int (outF (μ (43 + x4.toNatClampNeg) 0) (μ (43 + x4.toNatClampNeg) 4) (μ (43 + x4.toNatClampNeg) 6)), .int x3]) ok_X0_home vi_X0_home ml_7_170 hcl_0 (kdHo (isH p9)) dX7_again_83 rfl rfl (Nat.le_of_ble_eq_true rfl) (Nat.le_of_ble_eq_true rfl) (by decide) (ct_X0_home (43 + x4.toNatClampNeg) (isH p9) μ) ?_
      refine ev_iadd dX7_again_86 ?_
      refine ev_max ml_7_202 dX7_again_87 (Nat.le_of_ble_eq_true rfl) (by decide) ⟨Nat.le_refl _, Nat.le_refl _⟩ ?_
      refine ev_top (fun y11 ey11 => ?_)
      have h12 := h10 y11 ey11
      refine ev_istore_n (lv' := [(0, .ref 10), (3, .int y11), (4, .int x4)]) dX7_again_90 (by decide) [1, 0, 2] rfl ?_
      refine ev_iinc (v := (x4 + 1)) (lv' := [(0, .ref 10), (3, .int y11), (4, .int (x4 + 1))]) dX7_again_91 2 rfl rfl (by decide) [1, 2, 0] rfl ?_
      refine ev_goto (tgt := 41) dX7_again_94 rfl ?_
      exact h12
theorem lp_X7_again {G : GW} {α μ0 μ : Mem} {S : Int32} (hf : WF α) (h : VX α μ) (hm : keepM μ0 μ) (hS : μ 26 6 = S) : ∀ j i, i + j = aN α → Ev2 G mX7_again 7 41 [(0, .ref 10), (3, .int (agA α S i)), (4, .int (nI i))] [] μ (fun v μ' => v = some (.int (agA α S (aN α))) ∧ VX α μ' ∧ keepM μ0 μ') := by
  have hn7 := hf.1.1.2
  have cN : μ 10 9 = nI (aN α) := h.1.1.1.trans hf.1.1.1
  intro j
  induction j with
  | zero =>
    intro i hi
    obtain rfl : i = aN α := by omega
    refine sg_X7_again_41 ⟨fun _ => ⟨rfl, h, hm⟩, fun c => ?_⟩
    rw [cN] at c
    exact absurd (nI_le (Nat.le_refl _) (by omega)) c
  | succ j ih =>
    intro i hi
    have hh := ih (i + 1) (by omega)
    rw [← nI_1] at hh
    have ep : agA α S (i + 1) = if bitB S (nI i) = true then imax (agA α S i) (outA α i + homeA α i) else agA α S i := rfl
    rw [ep] at hh
    refine sg_X7_again_41 ⟨fun c => ?_, fun _ => ?_⟩
    · rw [cN] at c
      exact absurd c (nI_ge (by omega) (by omega))
    · rw [hS]
      refine ⟨fun c => ?_, fun c => ⟨vp_nI (by omega) (by omega), vp_nI (by omega) (by omega), fun y hy => ?_⟩⟩
      · rw [if_neg (by rw [c]; decide)] at hh
        exact hh
      · rw [if_pos c] at hh
        rw [ix_nI (by omega)] at hy
        have q : i < aN α := (by omega)
        have f0 : μ (43 + i) 0 = α 4 (i) := h.1.2.2.2.1 _ q 0 (by omega)
        have f1 : μ (43 + i) 1 = α 5 (i) := h.1.2.2.2.1 _ q 1 (by omega)
        have f2 : μ (43 + i) 2 = α 6 (i) := h.1.2.2.2.1 _ q 2 (by omega)
        have f3 : μ (43 + i) 3 = α 7 (i) := h.1.2.2.2.1 _ q 3 (by omega)
        have f4 : μ (43 + i) 4 = α 8 (i) := h.1.2.2.2.1 _ q 4 (by omega)
        have f5 : μ (43 + i) 5 = α 9 (i) := h.1.2.2.2.1 _ q 5 (by omega)
        have f6 : μ (43 + i) 6 = saidA α 0 (i) := h.2 _ q 0 (by omega)
        have f7 : μ (43 + i) 7 = saidA α 1 (i) := h.2 _ q 1 (by omega)
        have f8 : μ (43 + i) 8 = saidA α 2 (i) := h.2 _ q 2 (by omega)
        rw [f0, f4, f6, f7] at hy
        have hy : y = imax (agA α S i) (outA α i + homeA α i) := hy
        rw [hy]
        exact hh
theorem pb_X7_again {G : GW} {α μ : Mem} (hf : WF α) (h : VX α μ) (x1 x2 : Int32) : pubX G mX7_again 7 [(0, .ref 10), (1, .int x1), (2, .int x2)] α μ (.int (sp_again α x1 x2)) α := by
  have hs := allA_ok hf.1
  refine sg_X7_again_0 ?_
  unfold sp_again
  refine ⟨fun c => ?_, fun c => ⟨fun d => ?_, fun d => ?_⟩⟩
  · rw [if_neg (by rw [c]; decide)]
    exact ⟨rfl, h, keepM.rf μ⟩
  · rw [if_pos c, if_pos d, VX.all h.1]
    obtain ⟨a, ha, rfl⟩ := inB_nI (m := 6) (by omega) c
    obtain ⟨b, hb, rfl⟩ := inB_nI (m := 6) (by omega) d
    rw [ix_nI (i := a) (by omega), ix_nI (i := b) (by omega)]
    refine ⟨⟨vp_nI (by omega) (by omega), vp_nI (by omega) (by omega), h.go hf hs⟩, fun x ν hx => ?_⟩
    obtain ⟨e1, h1, k1, q1⟩ := soon_shown hf h hs hx
    have hc : chainAll (runA α (allA α) (nI b) a) := chain_run (by omega)
    refine ⟨⟨vp_nI (by omega) (by omega), (hc.congr q1.sy).ok⟩, fun ξ hξ => ?_⟩
    obtain ⟨s1, s2, t1, t2, t3, t4⟩ := trace_shown (by omega) q1 hc hξ
    exact lp_X7_again hf (h1.Q hf s1) (k1.tr (keepM.of_sameQ s1)) t2 (aN α) 0 (by omega)
  · rw [if_pos c, if_neg (by rw [d]; decide)]
    exact ⟨rfl, h, keepM.rf μ⟩
/-! doctor -/
def stepD (s : Int32 × Int32) (g p : Int32) : Int32 × Int32 := if s.1 ≤ g then s else (g, p)
def docA (α : Mem) : Nat → Int32 × Int32
  | 0 => (1000000000, 0)
  | p + 1 => stepD (docA α p) (grS (runA α (allA α) (-1) p) 7) (nI p)
theorem docA_succ (α : Mem) (p : Nat) : docA α (p + 1) = stepD (docA α p) (grS (runA α (allA α) (-1) p) 7) (nI p) := rfl
def sp_doctor (α : Mem) (what : Int32) : Int32 := if inB what 0 1 = true then sel2 what (docA α 7).1 (docA α 7).2 else -2
theorem sg_X7_doctor_0 {G : GW} {K : Option Value → Mem → Prop} {μ : Mem} {x1 : Int32}  (h : (((inB x1 (0 : Int32) (1 : Int32)) = true) → Ev2 G mX7_doctor 7 20 [(0, .ref 10), (1, .int x1), (2, .int 1000000000), (3, .int 0), (4, .int 0)] [] μ K) ∧ (((inB x1 (0 : Int32) (1 : Int32)) = false) → K (some (.int (-2))) μ)) : Ev2 G mX7_doctor 7 0 [(0, .ref 10), (1, .int x1)] [] μ K := by
  refine ev_iload_n dX7_doctor_0 1 rfl ?_
  refine ev_iconst (v := 0) dX7_doctor_1 rfl ?_
  refine ev_iconst (v := 1) dX7_doctor_2 rfl ?_
  refine e2_callS (w := .int (bi (inB x1 (0 : Int32) (1 : Int32)))) (μ1 := μ) (as := [.int x1, .int 0, .int 1]) (st := []) ok_X7_isWithin sv_X7_isWithin ml_7_86 dX7_doctor_3 rfl rfl (Nat.le_of_ble_eq_true rfl) (Nat.le_of_ble_eq_true rfl) (by decide) (ct_X7_isWithin (x1) (0) (1) μ) ?_
  refine ev_ifne_bi (tgt := 12) dX7_doctor_6 rfl (fun c1 => ?_) (fun c1 => ?_)
  · have h2 := h.1 c1
    refine ev_ldc dX7_doctor_12 co_7_201 ?_
    refine ev_istore_n (lv' := [(0, .ref 10), (1, .int x1), (2, .int 1000000000)]) dX7_doctor_14 (by decide) [1, 2, 0] rfl ?_
    refine ev_iconst (v := 0) dX7_doctor_15 rfl ?_
    refine ev_istore_n (lv' := [(0, .ref 10), (1, .int x1), (2, .int 1000000000), (3, .int 0)]) dX7_doctor_16 (by decide) [1, 2, 3, 0] rfl ?_
    refine ev_iconst (v := 0) dX7_doctor_17 rfl ?_
    refine ev_istore (lv' := [(0, .ref 10), (1, .int x1), (2, .int 1000000000), (3, .int 0), (4, .int 0)]) dX7_doctor_18 (by decide) [1, 2, 3, 4, 0] rfl ?_
    exact h2
  · have h3 := h.2 c1
    refine ev_bipush (v := (-2)) dX7_doctor_9 rfl ?_
    exact ev_ireturn dX7_doctor_11 rfl True.intro rfl rfl ⟨rfl, h3⟩
theorem sg_X7_doctor_20 {G : GW} {K : Option Value → Mem → Prop} {μ : Mem} {x1 x2 x3 x4 : Int32}  (h : ((7 ≤ x4) → ((¬ x1 = 0) → K (some (.int x3)) μ) ∧ ((x1 = 0) → K (some (.int x2)) μ)) ∧ ((¬ (7 ≤ x4)) → (vp_in x4 7 ∧ goOK (goX μ) ((((1 : Int32) <<< (μ 10 9 &&& 31)) - 1))) ∧ ∀ μ9 : Mem, (sameQ μ μ9 ∧ eq7 (get4 27 μ9) (runV (goX μ) (tmX μ) (wX μ) ((((1 : Int32) <<< (μ 10 9 &&& 31)) - 1)) (-1) x4.toNatClampNeg)) → ((x2 ≤ (grS (get4 27 μ9) 7)) → Ev2 G mX7_doctor 7 20 [(0, .ref 10), (1, .int x1), (2, .int x2), (3, .int x3), (4, .int (x4 + 1))] [] μ9 K) ∧ ((¬ (x2 ≤ (grS (get4 27 μ9) 7))) → Ev2 G mX7_doctor 7 20 [(0, .ref 10), (1, .int x1), (2, .int (grS (get4 27 μ9) 7)), (3, .int x4), (4, .int (x4 + 1))] [] μ9 K))) : Ev2 G mX7_doctor 7 20 [(0, .ref 10), (1, .int x1), (2, .int x2), (3, .int x3), (4, .int x4)] [] μ K := by
  refine ev_iload dX7_doctor_20 4 rfl ?_
  refine ev_bipush (v := 7) dX7_doctor_22 rfl ?_
  refine ev_icmp_ge (tgt := 60) dX7_doctor_24 rfl (fun c1 => ?_) (fun c1 => ?_)
  · have h2 := h.1 c1
    refine ev_iload_n dX7_doctor_60 1 rfl ?_
    refine ev_if_ne (tgt := 68) dX7_doctor_61 rfl (fun c4 => ?_) (fun c4 => ?_)
    · have h5 := h2.1 c4
      refine ev_iload_n dX7_doctor_68 3 rfl ?_
      exact ev_ireturn dX7_doctor_69 rfl True.intro rfl rfl ⟨rfl, h5⟩
    · have h6 := h2.2 c4
      refine ev_iload_n dX7_doctor_64 2 rfl ?_
      refine ev_goto (tgt := 69) dX7_doctor_65 rfl ?_
      exact ev_ireturn dX7_doctor_69 rfl True.intro rfl rfl ⟨rfl, h6⟩
  · have h3 := h.2 c1
    refine ev_aload_n dX7_doctor_27 0 rfl (by decide) ?_
    refine ev_iload dX7_doctor_28 4 rfl ?_
    have p7 := h3.1
    have h8 := h3.2
    refine e2_callVrv (Rl := fun μ9 => sameQ μ μ9 ∧ eq7 (get4 27 μ9) (runV (goX μ) (tmX μ) (wX μ) ((((1 : Int32) <<< (μ 10 9 &&& 31)) - 1)) (-1) x4.toNatClampNeg)) (a := 10) (as := [.int x4]) (st := []) ok_X7_searchAll vi_X7_searchAll ml_7_223 hcl_7 kd_10 dX7_doctor_30 rfl rfl (Nat.le_of_ble_eq_true rfl) (Nat.le_of_ble_eq_true rfl) (by decide) (ct_X7_searchAll (x4) μ p7) (fun μ9 r10 => ?_)
    have h11 := h8 μ9 r10
    refine ev_aload_n dX7_doctor_33 0 rfl (by decide) ?_
    refine ev_getR' fl_7_43 rfl kd_10 rf_10_6 dX7_doctor_34 ?_
    refine e2_callV (w := .int (grS (get4 27 μ9) 7)) (μ1 := μ9) (a := 26) (as := []) (st := []) ok_X3_greatestSoon vi_X3_greatestSoon ml_7_226 hcl_3 kd_26 dX7_doctor_37 rfl rfl (Nat.le_of_ble_eq_true rfl) (Nat.le_of_ble_eq_true rfl) (by decide) (ct_X3_greatestSoon μ9) ?_
    refine ev_istore (lv' := [(0, .ref 10), (1, .int x1), (2, .int x2), (3, .int x3), (4, .int x4), (5, .int (grS (get4 27 μ9) 7))]) dX7_doctor_40 (by decide) [1, 2, 3, 4, 5, 0] rfl ?_
    refine ev_iload dX7_doctor_42 5 rfl ?_
    refine ev_iload_n dX7_doctor_44 2 rfl ?_
    refine ev_icmp_ge (tgt := 54) dX7_doctor_45 rfl (fun c12 => ?_) (fun c12 => ?_)
    · have h13 := h11.1 c12
      refine ev_iinc (v := (x4 + 1)) (lv' := [(0, .ref 10), (1, .int x1), (2, .int x2), (3, .int x3), (4, .int (x4 + 1)), (5, .int (grS (get4 27 μ9) 7))]) dX7_doctor_54 4 rfl rfl (by decide) [1, 2, 3, 4, 0, 5] rfl ?_
      refine ev_goto (tgt := 20) dX7_doctor_57 rfl ?_
      refine EvW.less [0, 1, 2, 3, 4] (lv' := [(0, .ref 10), (1, .int x1), (2, .int x2), (3, .int x3), (4, .int (x4 + 1))]) rfl ?_
      exact h13
    · have h14 := h11.2 c12
      refine ev_iload dX7_doctor_48 5 rfl ?_
      refine ev_istore_n (lv' := [(0, .ref 10), (1, .int x1), (2, .int (grS (get4 27 μ9) 7)), (3, .int x3), (4, .int x4), (5, .int (grS (get4 27 μ9) 7))]) dX7_doctor_50 (by decide) [1, 2, 0, 3, 4, 5] rfl ?_
      refine ev_iload dX7_doctor_51 4 rfl ?_
      refine ev_istore_n (lv' := [(0, .ref 10), (1, .int x1), (2, .int (grS (get4 27 μ9) 7)), (3, .int x4), (4, .int x4), (5, .int (grS (get4 27 μ9) 7))]) dX7_doctor_53 (by decide) [1, 2, 3, 0, 4, 5] rfl ?_
      refine ev_iinc (v := (x4 + 1)) (lv' := [(0, .ref 10), (1, .int x1), (2, .int (grS (get4 27 μ9) 7)), (3, .int x4), (4, .int (x4 + 1)), (5, .int (grS (get4 27 μ9) 7))]) dX7_doctor_54 4 rfl rfl (by decide) [1, 2, 3, 4, 0, 5] rfl ?_
      refine ev_goto (tgt := 20) dX7_doctor_57 rfl ?_
      refine EvW.less [0, 1, 2, 3, 4] (lv' := [(0, .ref 10), (1, .int x1), (2, .int (grS (get4 27 μ9) 7)), (3, .int x4), (4, .int (x4 + 1))]) rfl ?_
      exact h14
theorem lp_X7_doctor {G : GW} {α μ0 : Mem} (hf : WF α) {x1 : Int32} : ∀ j i (μ : Mem), i + j = 7 → VX α μ → keepM μ0 μ → Ev2 G mX7_doctor 7 20 [(0, .ref 10), (1, .int x1), (2, .int (docA α i).1), (3, .int (docA α i).2), (4, .int (nI i))] [] μ (fun v μ' => v = some (.int (sel2 x1 (docA α 7).1 (docA α 7).2)) ∧ VX α μ' ∧ keepM μ0 μ') := by
  intro j
  induction j with
  | zero =>
    intro i μ hi h hm
    obtain rfl : i = 7 := by omega
    refine sg_X7_doctor_20 ⟨fun _ => ⟨fun c => ⟨?_, h, hm⟩, fun c => ⟨?_, h, hm⟩⟩, fun c => absurd (nI_le (a := 7) (Nat.le_refl _) (by omega)) c⟩
    · unfold sel2; rw [if_neg c]
    · unfold sel2; rw [if_pos c]
  | succ j ih =>
    intro i μ hi h hm
    refine sg_X7_doctor_20 ⟨fun c => absurd c (nI_ge (b := 7) (by omega) (by omega)), fun _ => ?_⟩
    rw [VX.all h.1]
    refine ⟨⟨vp_nI (by omega) (by omega), h.go hf (allA_ok hf.1)⟩, fun ν hν => ?_⟩
    rw [ix_nI (by omega)] at hν
    obtain ⟨h1, k1, q1⟩ := all_shown hf h hν
    have hh := ih (i + 1) ν (by omega) h1 (hm.tr k1)
    rw [docA_succ, ← grS_congr q1 7 (Nat.le_refl 7), ← nI_1] at hh
    unfold stepD at hh
    refine ⟨fun c => ?_, fun c => ?_⟩
    · rw [if_pos c] at hh
      exact hh
    · rw [if_neg c] at hh
      exact hh
theorem pb_X7_doctor {G : GW} {α μ : Mem} (hf : WF α) (h : VX α μ) (x1 : Int32) : pubX G mX7_doctor 7 [(0, .ref 10), (1, .int x1)] α μ (.int (sp_doctor α x1)) α := by
  refine sg_X7_doctor_0 ?_
  unfold sp_doctor
  refine ⟨fun c => ?_, fun c => ?_⟩
  · rw [if_pos c]
    exact lp_X7_doctor hf 7 0 μ rfl h (keepM.rf μ)
  · rw [if_neg (by rw [c]; decide)]
    exact ⟨rfl, h, keepM.rf μ⟩
/-! lost -/
def lostA (α : Mem) (a b : Nat) (m : Int32) : Nat → Int64
  | 0 => 0
  | k + 1 => if soonA α (nI k) a b ≤ m then lostA α a b m k else lostA α a b m k + livV (fun i => saidA α 2 i) (nI k) (aN α)
theorem lostA_succ (α : Mem) (a b : Nat) (m : Int32) (k : Nat) : lostA α a b m (k + 1) = if soonA α (nI k) a b ≤ m then lostA α a b m k else lostA α a b m k + livV (fun i => saidA α 2 i) (nI k) (aN α) := rfl
def sp_lost (α : Mem) (x y m : Int32) : Int64 := if inB x 0 6 = true then (if inB y 0 6 = true then (if inB m 0 9999 = true then lostA α x.toNatClampNeg y.toNatClampNeg m (2 ^ aN α) else -4611686018427387904) else -4611686018427387904) else -4611686018427387904
theorem livV_congr {f g : Nat → Int32} {s : Int32} : ∀ n, (∀ i, i < n → f i = g i) → livV f s n = livV g s n := by
  intro n
  induction n with
  | zero => intro _; rfl
  | succ n ih =>
    intro q
    unfold livV
    rw [ih (fun i hi => q i (by omega)), q n (by omega)]
theorem sg_X7_lost_0 {G : GW} {K : Option Value → Mem → Prop} {μ : Mem} {x1 x2 x3 : Int32}  (h : (((inB x1 0 6) = false) → K (some (.long (-4611686018427387904 : Int64))) μ) ∧ (((inB x1 0 6) = true) → (((inB x2 0 6) = false) → K (some (.long (-4611686018427387904 : Int64))) μ) ∧ (((inB x2 0 6) = true) → (((inB x3 (0 : Int32) (9999 : Int32)) = true) → Ev2 G mX7_lost 7 35 [(0, .ref 10), (1, .int x1), (2, .int x2), (3, .int x3), (4, .long (0 : Int64)), (6, .int 0)] [] μ K) ∧ (((inB x3 (0 : Int32) (9999 : Int32)) = false) → K (some (.long (-4611686018427387904 : Int64))) μ)))) : Ev2 G mX7_lost 7 0 [(0, .ref 10), (1, .int x1), (2, .int x2), (3, .int x3)] [] μ K := by
  refine ev_iload_n dX7_lost_0 1 rfl ?_
  refine e2_callS (w := .int (bi (inB x1 0 6))) (μ1 := μ) (as := [.int x1]) (st := []) ok_X7_isPlace sv_X7_isPlace ml_7_94 dX7_lost_1 rfl rfl (Nat.le_of_ble_eq_true rfl) (Nat.le_of_ble_eq_true rfl) (by decide) (ct_X7_isPlace (x1) μ) ?_
  refine ev_ifeq_bi (tgt := 25) dX7_lost_4 rfl (fun c1 => ?_) (fun c1 => ?_)
  · have h2 := h.1 c1
    refine ev_ldc2 dX7_lost_25 co_7_214 ?_
    exact ev_lreturn dX7_lost_28 rfl rfl rfl ⟨rfl, h2⟩
  · have h3 := h.2 c1
    refine ev_iload_n dX7_lost_7 2 rfl ?_
    refine e2_callS (w := .int (bi (inB x2 0 6))) (μ1 := μ) (as := [.int x2]) (st := []) ok_X7_isPlace sv_X7_isPlace ml_7_94 dX7_lost_8 rfl rfl (Nat.le_of_ble_eq_true rfl) (Nat.le_of_ble_eq_true rfl) (by decide) (ct_X7_isPlace (x2) μ) ?_
    refine ev_ifeq_bi (tgt := 25) dX7_lost_11 rfl (fun c4 => ?_) (fun c4 => ?_)
    · have h5 := h3.1 c4
      refine ev_ldc2 dX7_lost_25 co_7_214 ?_
      exact ev_lreturn dX7_lost_28 rfl rfl rfl ⟨rfl, h5⟩
    · have h6 := h3.2 c4
      refine ev_iload_n dX7_lost_14 3 rfl ?_
      refine ev_iconst (v := 0) dX7_lost_15 rfl ?_
      refine ev_sipush (v := 9999) dX7_lost_16 rfl ?_
      refine e2_callS (w := .int (bi (inB x3 (0 : Int32) (9999 : Int32)))) (μ1 := μ) (as := [.int x3, .int 0, .int 9999]) (st := []) ok_X7_isWithin sv_X7_isWithin ml_7_86 dX7_lost_19 rfl rfl (Nat.le_of_ble_eq_true rfl) (Nat.le_of_ble_eq_true rfl) (by decide) (ct_X7_isWithin (x3) (0) (9999) μ) ?_
      refine ev_ifne_bi (tgt := 29) dX7_lost_22 rfl (fun c7 => ?_) (fun c7 => ?_)
      · have h8 := h6.1 c7
        refine ev_lconst (v := (0 : Int64)) dX7_lost_29 rfl ?_
        refine ev_lstore (lv' := [(0, .ref 10), (1, .int x1), (2, .int x2), (3, .int x3), (4, .long (0 : Int64))]) dX7_lost_30 (by decide) [1, 2, 3, 4, 0] rfl ?_
        refine ev_iconst (v := 0) dX7_lost_32 rfl ?_
        refine ev_istore (lv' := [(0, .ref 10), (1, .int x1), (2, .int x2), (3, .int x3), (4, .long (0 : Int64)), (6, .int 0)]) dX7_lost_33 (by decide) [1, 2, 3, 4, 5, 0] rfl ?_
        exact h8
      · have h9 := h6.2 c7
        refine ev_ldc2 dX7_lost_25 co_7_214 ?_
        exact ev_lreturn dX7_lost_28 rfl rfl rfl ⟨rfl, h9⟩
theorem sg_X7_lost_35 {G : GW} {K : Option Value → Mem → Prop} {μ : Mem} {x1 x2 x3 x6 : Int32} {x4 : Int64}  (h : ((((((1 : Int32) <<< (μ 10 9 &&& 31)) - 1)) < x6) → K (some (.long x4)) μ) ∧ ((¬ (((((1 : Int32) <<< (μ 10 9 &&& 31)) - 1)) < x6)) → (vp_in x1 7 ∧ vp_in x2 7 ∧ goOK (goX μ) x6) ∧ ∀ (z6 : Int32) (μ7 : Mem), (soonR μ x6 x1.toNatClampNeg x2.toNatClampNeg z6 μ7) → ((z6 ≤ x3) → Ev2 G mX7_lost 7 35 [(0, .ref 10), (1, .int x1), (2, .int x2), (3, .int x3), (4, .long x4), (6, .int (x6 + 1))] [] μ7 K) ∧ ((¬ (z6 ≤ x3)) → (∃ n, n ≤ 7 ∧ μ7 10 9 = nI n) ∧ Ev2 G mX7_lost 7 35 [(0, .ref 10), (1, .int x1), (2, .int x2), (3, .int x3), (4, .long (x4 + (livV (fun h => μ7 (43 + h) 8) x6 (μ7 10 9).toNatClampNeg))), (6, .int (x6 + 1))] [] μ7 K))) : Ev2 G mX7_lost 7 35 [(0, .ref 10), (1, .int x1), (2, .int x2), (3, .int x3), (4, .long x4), (6, .int x6)] [] μ K := by
  refine ev_iload dX7_lost_35 5 rfl ?_
  refine ev_aload_n dX7_lost_37 0 rfl (by decide) ?_
  refine e2_callV (w := .int ((((1 : Int32) <<< (μ 10 9 &&& 31)) - 1))) (μ1 := μ) (a := 10) (as := []) (st := [.int x6]) ok_X7_allHorses vi_X7_allHorses ml_7_176 hcl_7 kd_10 dX7_lost_38 rfl rfl (Nat.le_of_ble_eq_true rfl) (Nat.le_of_ble_eq_true rfl) (by decide) (ct_X7_allHorses μ) ?_
  refine ev_icmp_gt (tgt := 73) dX7_lost_41 rfl (fun c1 => ?_) (fun c1 => ?_)
  · have h2 := h.1 c1
    refine ev_lload dX7_lost_73 4 rfl ?_
    exact ev_lreturn dX7_lost_75 rfl rfl rfl ⟨rfl, h2⟩
  · have h3 := h.2 c1
    refine ev_aload_n dX7_lost_44 0 rfl (by decide) ?_
    refine ev_iload dX7_lost_45 5 rfl ?_
    refine ev_iload_n dX7_lost_47 1 rfl ?_
    refine ev_iload_n dX7_lost_48 2 rfl ?_
    have p4 := h3.1
    have h5 := h3.2
    refine e2_callVr (Rl := fun z6 μ7 => soonR μ x6 x1.toNatClampNeg x2.toNatClampNeg z6 μ7) (a := 10) (as := [.int x6, .int x1, .int x2]) (st := []) ok_X7_soonWith vi_X7_soonWith ml_7_179 hcl_7 kd_10 dX7_lost_49 rfl rfl (Nat.le_of_ble_eq_true rfl) (Nat.le_of_ble_eq_true rfl) (by decide) (ct_X7_soonWith (x6) (x1) (x2) μ p4) (fun z6 μ7 r8 => ?_)
    have h9 := h5 z6 μ7 r8
    refine ev_iload_n dX7_lost_52 3 rfl ?_
    refine ev_icmp_le (tgt := 67) dX7_lost_53 rfl (fun c10 => ?_) (fun c10 => ?_)
    · have h11 := h9.1 c10
      refine ev_iinc (v := (x6 + 1)) (lv' := [(0, .ref 10), (1, .int x1), (2, .int x2), (3, .int x3), (4, .long x4), (6, .int (x6 + 1))]) dX7_lost_67 5 rfl rfl (by decide) [1, 2, 3, 4, 5, 0] rfl ?_
      refine ev_goto (tgt := 35) dX7_lost_70 rfl ?_
      exact h11
    · have h12 := h9.2 c10
      refine ev_lload dX7_lost_56 4 rfl ?_
      refine ev_aload_n dX7_lost_58 0 rfl (by decide) ?_
      refine ev_iload dX7_lost_59 5 rfl ?_
      have p13 := h12.1
      have h14 := h12.2
      refine e2_callV (w := .long (livV (fun h => μ7 (43 + h) 8) x6 (μ7 10 9).toNatClampNeg)) (μ1 := μ7) (a := 10) (as := [.int x6]) (st := [.long x4]) ok_X7_lives vi_X7_lives ml_7_216 hcl_7 kd_10 dX7_lost_61 rfl rfl (Nat.le_of_ble_eq_true rfl) (Nat.le_of_ble_eq_true rfl) (by decide) (ct_X7_lives (x6) μ7 p13) ?_
      refine ev_ladd dX7_lost_64 ?_
      refine ev_lstore (lv' := [(0, .ref 10), (1, .int x1), (2, .int x2), (3, .int x3), (4, .long (x4 + (livV (fun h => μ7 (43 + h) 8) x6 (μ7 10 9).toNatClampNeg))), (6, .int x6)]) dX7_lost_65 (by decide) [1, 2, 3, 4, 0, 5] rfl ?_
      refine ev_iinc (v := (x6 + 1)) (lv' := [(0, .ref 10), (1, .int x1), (2, .int x2), (3, .int x3), (4, .long (x4 + (livV (fun h => μ7 (43 + h) 8) x6 (μ7 10 9).toNatClampNeg))), (6, .int (x6 + 1))]) dX7_lost_67 5 rfl rfl (by decide) [1, 2, 3, 4, 5, 0] rfl ?_
      refine ev_goto (tgt := 35) dX7_lost_70 rfl ?_
      exact h14
theorem lp_X7_lost {G : GW} {α μ0 : Mem} (hf : WF α) {a b : Nat} (ha : a < 7) (hb : b < 7) {x3 : Int32} : ∀ j k (μ : Mem), k + j = 2 ^ aN α → VX α μ → keepM μ0 μ → Ev2 G mX7_lost 7 35 [(0, .ref 10), (1, .int (nI a)), (2, .int (nI b)), (3, .int x3), (4, .long (lostA α a b x3 k)), (6, .int (nI k))] [] μ (fun v μ' => v = some (.long (lostA α a b x3 (2 ^ aN α))) ∧ VX α μ' ∧ keepM μ0 μ') := by
  intro j
  induction j with
  | zero =>
    intro k μ hk h hm
    obtain rfl : k = 2 ^ aN α := by omega
    refine sg_X7_lost_35 ⟨fun _ => ⟨rfl, h, hm⟩, fun c => ?_⟩
    rw [VX.all h.1] at c
    exact absurd (sets_out hf.1) c
  | succ j ih =>
    intro k μ hk h hm
    refine sg_X7_lost_35 ⟨fun c => ?_, fun _ => ?_⟩
    · rw [VX.all h.1] at c
      exact absurd c (sets_in hf.1 (by omega))
    · have hs := setOK_nI (n := aN α) hf.1.1.2 (k := k) (by omega)
      refine ⟨⟨vp_nI ha (by omega), vp_nI hb (by omega), h.go hf hs⟩, fun x ν hx => ?_⟩
      rw [ix_nI (by omega), ix_nI (by omega)] at hx
      obtain ⟨ex, h1, k1, -⟩ := soon_shown hf h hs hx
      have hh := ih (k + 1) ν (by omega) h1 (hm.tr k1)
      rw [lostA_succ, ← ex, ← nI_1] at hh
      refine ⟨fun c => ?_, fun c => ⟨VX.n hf h1.1, ?_⟩⟩
      · rw [if_pos c] at hh
        exact hh
      · rw [if_neg c] at hh
        have e : (ν 10 9).toNatClampNeg = aN α := by rw [h1.1.1.1]; rfl
        rw [e, livV_congr (f := fun h => ν (43 + h) 8) (g := fun i => saidA α 2 i) _ (fun i hi => h1.2 i hi 2 (by omega))]
        exact hh
theorem pb_X7_lost {G : GW} {α μ : Mem} (hf : WF α) (h : VX α μ) (x1 x2 x3 : Int32) : pubX G mX7_lost 7 [(0, .ref 10), (1, .int x1), (2, .int x2), (3, .int x3)] α μ (.long (sp_lost α x1 x2 x3)) α := by
  refine sg_X7_lost_0 ?_
  unfold sp_lost
  refine ⟨fun c => ?_, fun c => ⟨fun d => ?_, fun d => ⟨fun e => ?_, fun e => ?_⟩⟩⟩
  · rw [if_neg (by rw [c]; decide)]
    exact ⟨rfl, h, keepM.rf μ⟩
  · rw [if_pos c, if_neg (by rw [d]; decide)]
    exact ⟨rfl, h, keepM.rf μ⟩
  · rw [if_pos c, if_pos d, if_pos e]
    obtain ⟨a, ha, rfl⟩ := inB_nI (m := 6) (by omega) c
    obtain ⟨b, hb, rfl⟩ := inB_nI (m := 6) (by omega) d
    rw [ix_nI (i := a) (by omega), ix_nI (i := b) (by omega)]
    exact lp_X7_lost hf (by omega) (by omega) (2 ^ aN α) 0 μ (by omega) h (keepM.rf μ)
  · rw [if_pos c, if_pos d, if_neg (by rw [e]; decide)]
    exact ⟨rfl, h, keepM.rf μ⟩
