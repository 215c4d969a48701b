/-! ===== the reference: setting out ===== -/
theorem eq7.full {go : Nat → Nat → Int32} {tm : Nat → Int32 → Int32} {w : Nat → Nat → Int32} {n : Nat} (hn : n ≤ 7) {set : Int32} (hg : goOK go set) : ∀ (f : Nat) {σ τ : Mem}, eq7 σ τ → eq7 (fullR go tm w n set f σ) (fullR go tm w n set f τ) := by
  intro f
  induction f with
  | zero => intro σ τ h; exact h
  | succ f ih =>
    intro σ τ h
    have er := pickS_range (σ := τ) 7
    show eq7 (fullR go tm w n set f (leaveS go tm w n set (pickS σ 7).toNatClampNeg σ)) (fullR go tm w n set f (leaveS go tm w n set (pickS τ 7).toNatClampNeg τ))
    rw [h.pick 7 (Nat.le_refl 7)]
    rcases er with e | ⟨p, hp, e, -⟩
    · rw [e]
      exact ih (h.leave hn hg (p := 0) (by omega))
    · rw [e, ix_nI (by omega)]
      exact ih (h.leave hn hg hp)
/-- at each step there is one to leave -/
def pkOK (go : Nat → Nat → Int32) (tm : Nat → Int32 → Int32) (w : Nat → Nat → Int32) (n : Nat) (set : Int32) : Nat → Mem → Prop
  | 0, _ => True
  | f + 1, σ => (∃ p, p < 7 ∧ pickS σ 7 = nI p) ∧ pkOK go tm w n set f (leaveS go tm w n set (pickS σ 7).toNatClampNeg σ)
theorem pkOK_inv {go : Nat → Nat → Int32} {tm : Nat → Int32 → Int32} {w : Nat → Nat → Int32} {set : Int32} (hE : envG go tm w set) {a n : Nat} (ha : a < 7) (hn : n ≤ 7) : ∀ f (σ : Mem), Inv w a σ → cntL σ + f = 7 → pkOK go tm w n set f σ := by
  intro f
  induction f with
  | zero => intro σ _ _; exact True.intro
  | succ f ih =>
    intro σ h hc
    obtain ⟨p, e, hp⟩ := pick_some ha h (by omega)
    have hj := Jv.leave hE hn h hp
    refine ⟨⟨p, hp.1, e⟩, ?_⟩
    rw [e, ix_nI (by have := hp.1; omega)]
    exact ih _ (hj.inv h hp) (by have := cnt_leave hp hj; omega)
theorem pkOK_init {go : Nat → Nat → Int32} {tm : Nat → Int32 → Int32} {w : Nat → Nat → Int32} {set : Int32} (hE : envG go tm w set) {a n : Nat} (ha : a < 7) (hn : n ≤ 7) (z : Mem) : pkOK go tm w n set 7 (initS 2000000000 (-1) a z) := by
  obtain ⟨i1, i2, i3, i4, i5⟩ := first_leave hE ha hn z
  have e := pick_init (nv := 2000000000) (bf := -1) (by decide) ha z
  refine ⟨⟨a, ha, e⟩, ?_⟩
  rw [e, ix_nI (by omega)]
  exact pkOK_inv hE ha hn 6 _ (i1.sim ha i2) (by rw [← cntL_sim i2, i4])
def comeN (μ : Mem) (q : Nat) (t w f : Int32) : Mem := if t < μ 101 q then mset (mset (mset μ 101 q t) 102 q w) 103 q f else μ
theorem comeN_put {μ σ : Mem} {q : Nat} {t w f : Int32} : comeN (put4 101 μ σ) q t w f = put4 101 μ (comeS σ q t w f) := come_put4
theorem sg_X8_come_0 {G : GW} {K : Option Value → Mem → Prop} {μ : Mem} {x1 x2 x3 x4 : Int32}  (h : (vp_in x1 7) ∧ (((μ 101 x1.toNatClampNeg) ≤ x2) → K none μ) ∧ ((¬ ((μ 101 x1.toNatClampNeg) ≤ x2)) → (vp_in x1 7) ∧ (vp_in x1 7) ∧ (vp_in x1 7) ∧ K none (mset (mset (mset μ 101 x1.toNatClampNeg x2) 102 x1.toNatClampNeg x3) 103 x1.toNatClampNeg x4))) : Ev2 G mX8_come 1 0 [(0, .ref 82), (1, .int x1), (2, .int x2), (3, .int x3), (4, .int x4)] [] μ K := by
  refine ev_iload_n dX8_come_0 2 rfl ?_
  refine ev_aload_n dX8_come_1 0 rfl (by decide) ?_
  refine ev_getR' fl_8_201 rfl kd_82 rf_82_32 dX8_come_2 ?_
  refine ev_iload_n dX8_come_5 1 rfl ?_
  have p1 := h.1
  have h2 := h.2
  refine ev_iaload' (v := (μ 101 x1.toNatClampNeg)) kd_101 ln_101 p1 rfl dX8_come_6 ?_
  refine ev_icmp_ge (tgt := 32) dX8_come_7 rfl (fun c3 => ?_) (fun c3 => ?_)
  · have h4 := h2.1 c3
    exact ev_return dX8_come_32 rfl rfl rfl ⟨rfl, h4⟩
  · have h5 := h2.2 c3
    refine ev_aload_n dX8_come_10 0 rfl (by decide) ?_
    refine ev_getR' fl_8_201 rfl kd_82 rf_82_32 dX8_come_11 ?_
    refine ev_iload_n dX8_come_14 1 rfl ?_
    refine ev_iload_n dX8_come_15 2 rfl ?_
    have p6 := h5.1
    have h7 := h5.2
    refine ev_iastore' (j := x1.toNatClampNeg) kd_101 ln_101 p6 rfl dX8_come_16 ?_
    refine ev_aload_n dX8_come_17 0 rfl (by decide) ?_
    refine ev_getR' fl_8_204 rfl kd_82 rf_82_33 dX8_come_18 ?_
    refine ev_iload_n dX8_come_21 1 rfl ?_
    refine ev_iload_n dX8_come_22 3 rfl ?_
    have p8 := h7.1
    have h9 := h7.2
    refine ev_iastore' (j := x1.toNatClampNeg) kd_102 ln_102 p8 rfl dX8_come_23 ?_
    refine ev_aload_n dX8_come_24 0 rfl (by decide) ?_
    refine ev_getR' fl_8_207 rfl kd_82 rf_82_34 dX8_come_25 ?_
    refine ev_iload_n dX8_come_28 1 rfl ?_
    refine ev_iload dX8_come_29 4 rfl ?_
    have p10 := h9.1
    have h11 := h9.2
    refine ev_iastore' (j := x1.toNatClampNeg) kd_103 ln_103 p10 rfl dX8_come_31 ?_
    exact ev_return dX8_come_32 rfl rfl rfl ⟨rfl, h11⟩
theorem ct_X8_come {G : GW} (x1 x2 x3 x4 : Int32) (μ : Mem) (hp : vp_in x1 7) : Ev2 G mX8_come 1 0 [(0, .ref 82), (1, .int x1), (2, .int x2), (3, .int x3), (4, .int x4)] [] μ (fun v μ' => v = none ∧ μ' = comeN μ x1.toNatClampNeg x2 x3 x4) := by
  unfold comeN
  refine sg_X8_come_0 ⟨hp, fun c => ⟨rfl, ?_⟩, fun c => ⟨hp, hp, hp, rfl, ?_⟩⟩
  · rw [if_neg (Int32.not_lt.mpr c)]
  · rw [if_pos (Int32.not_le.mp c)]
def lvP (α : Mem) (set x : Int32) (μ : Mem) : Prop := VM α μ ∧ inB x 0 6 = true ∧ setOK (aN α) set ∧ ∀ h, h < aN α → μ 105 h = outA α h
theorem and1 (y : Int32) : y &&& 1 = 0 ∨ y &&& 1 = 1 := by
  obtain ⟨j, hj, e⟩ := pk_andE y (m := 1) 1 rfl
  rcases (show j = 0 ∨ j = 1 by omega) with rfl | rfl
  · exact Or.inl e
  · exact Or.inr e
theorem bitB_1 {set h : Int32} : bitB set h = true ↔ (set >>> (h &&& 31)) &&& 1 = 1 := by
  unfold bitB
  rcases and1 (set >>> (h &&& 31)) with e | e <;> rw [e] <;> decide
theorem sg_X8_leave_0 {G : GW} {K : Option Value → Mem → Prop} {μ : Mem} {α : Mem} (hf : WF α) {x1 x2 : Int32}  (h : (vp_in x1 7) ∧ Ev2 G mX8_leave 2 9 [(0, .ref 82), (1, .int x1), (2, .int x2), (3, .int 0)] [] (mset μ 104 x1.toNatClampNeg 1) K) : Ev2 G mX8_leave 2 0 [(0, .ref 82), (1, .int x1), (2, .int x2)] [] μ K := by
  refine ev_aload_n dX8_leave_0 0 rfl (by decide) ?_
  refine ev_getR' fl_8_210 rfl kd_82 rf_82_35 dX8_leave_1 ?_
  refine ev_iload_n dX8_leave_4 1 rfl ?_
  refine ev_iconst (v := 1) dX8_leave_5 rfl ?_
  have p1 := h.1
  have h2 := h.2
  refine ev_zastore' (j := x1.toNatClampNeg) kd_104 ln_104 p1 rfl rfl dX8_leave_6 ?_
  refine ev_iconst (v := 0) dX8_leave_7 rfl ?_
  refine ev_istore_n (lv' := [(0, .ref 82), (1, .int x1), (2, .int x2), (3, .int 0)]) dX8_leave_8 (by decide) [1, 2, 3, 0] rfl ?_
  exact h2
theorem sg_X8_leave_9 {G : GW} {K : Option Value → Mem → Prop} {μ : Mem} {α : Mem} (hf : WF α) {x1 x2 x3 : Int32}  (h : (((μ 82 4) ≤ x3) → Ev2 G mX8_leave 2 88 [(0, .ref 82), (1, .int x1), (3, .int 0)] [] μ K) ∧ ((¬ ((μ 82 4) ≤ x3)) → ((¬ ((x2 >>> (x3 &&& 31)) &&& 1) = 1) → Ev2 G mX8_leave 2 38 [(0, .ref 82), (1, .int x1), (2, .int x2), (3, .int x3), (4, .int (-1))] [] μ K) ∧ ((((x2 >>> (x3 &&& 31)) &&& 1) = 1) → (VM α μ ∧ inB x3 0 (α 0 0 - 1) = true ∧ inB x1 0 6 = true) ∧ ∀ y9 : Int32, y9 = (goA α x3.toNatClampNeg x1.toNatClampNeg) → Ev2 G mX8_leave 2 38 [(0, .ref 82), (1, .int x1), (2, .int x2), (3, .int x3), (4, .int y9)] [] μ K))) : Ev2 G mX8_leave 2 9 [(0, .ref 82), (1, .int x1), (2, .int x2), (3, .int x3)] [] μ K := by
  refine ev_iload_n dX8_leave_9 3 rfl ?_
  refine ev_aload_n dX8_leave_10 0 rfl (by decide) ?_
  refine ev_getI' (v := (μ 82 4)) fl_8_7 rfl kd_82 rfl dX8_leave_11 ?_
  refine ev_icmp_ge (tgt := 86) dX8_leave_14 rfl (fun c1 => ?_) (fun c1 => ?_)
  · have h2 := h.1 c1
    refine ev_iconst (v := 0) dX8_leave_86 rfl ?_
    refine ev_istore_n (lv' := [(0, .ref 82), (1, .int x1), (2, .int x2), (3, .int 0)]) dX8_leave_87 (by decide) [1, 2, 3, 0] rfl ?_
    refine EvW.less [0, 1, 3] (lv' := [(0, .ref 82), (1, .int x1), (3, .int 0)]) rfl ?_
    exact h2
  · have h3 := h.2 c1
    refine ev_iload_n dX8_leave_17 2 rfl ?_
    refine ev_iload_n dX8_leave_18 3 rfl ?_
    refine ev_ishr dX8_leave_19 ?_
    refine ev_iconst (v := 1) dX8_leave_20 rfl ?_
    refine ev_iand dX8_leave_21 ?_
    refine ev_iconst (v := 1) dX8_leave_22 rfl ?_
    refine ev_icmp_ne (tgt := 35) dX8_leave_23 rfl (fun c4 => ?_) (fun c4 => ?_)
    · have h5 := h3.1 c4
      refine ev_iconst (v := (-1)) dX8_leave_35 rfl ?_
      refine ev_istore (lv' := [(0, .ref 82), (1, .int x1), (2, .int x2), (3, .int x3), (4, .int (-1))]) dX8_leave_36 (by decide) [1, 2, 3, 4, 0] rfl ?_
      exact h5
    · have h6 := h3.2 c4
      refine ev_aload_n dX8_leave_26 0 rfl (by decide) ?_
      refine ev_iload_n dX8_leave_27 3 rfl ?_
      refine ev_iload_n dX8_leave_28 1 rfl ?_
      have p7 := h6.1
      have h8 := h6.2
      refine e2_callV (w := .int (goA α x3.toNatClampNeg x1.toNatClampNeg)) (μ1 := μ) (a := 82) (as := [.int x3, .int x1]) (st := []) ok_X8_whither vi_X8_whither ml_8_76 hcl_8 kd_82 dX8_leave_29 rfl rfl (Nat.le_of_ble_eq_true rfl) (Nat.le_of_ble_eq_true rfl) (by decide) (ct_X8_whither hf (x3) (x1) μ p7) ?_
      refine ev_goto (tgt := 36) dX8_leave_32 rfl ?_
      refine ev_top (fun y9 ey9 => ?_)
      have h10 := h8 y9 ey9
      refine ev_istore (lv' := [(0, .ref 82), (1, .int x1), (2, .int x2), (3, .int x3), (4, .int y9)]) dX8_leave_36 (by decide) [1, 2, 3, 4, 0] rfl ?_
      exact h10
theorem sg_X8_leave_38 {G : GW} {K : Option Value → Mem → Prop} {μ : Mem} {α : Mem} (hf : WF α) {x1 x2 x3 x4 : Int32}  (h : ((x4 = (-1)) → Ev2 G mX8_leave 2 9 [(0, .ref 82), (1, .int x1), (2, .int x2), (3, .int (x3 + 1))] [] μ K) ∧ ((¬ (x4 = (-1))) → ((x4 = x1) → Ev2 G mX8_leave 2 9 [(0, .ref 82), (1, .int x1), (2, .int x2), (3, .int (x3 + 1))] [] μ K) ∧ ((¬ (x4 = x1)) → (vp_in x1 7) ∧ (vp_in x3 8) ∧ (vp_in x3 8) ∧ (vp_in x4 7) ∧ Ev2 G mX8_leave 2 9 [(0, .ref 82), (1, .int x1), (2, .int x2), (3, .int (x3 + 1))] [] (comeN μ x4.toNatClampNeg ((imax (μ 101 x1.toNatClampNeg) (μ 91 x3.toNatClampNeg)) + (μ 105 x3.toNatClampNeg)) x3 x1) K))) : Ev2 G mX8_leave 2 38 [(0, .ref 82), (1, .int x1), (2, .int x2), (3, .int x3), (4, .int x4)] [] μ K := by
  refine ev_iload dX8_leave_38 4 rfl ?_
  refine ev_iconst (v := (-1)) dX8_leave_40 rfl ?_
  refine ev_icmp_eq (tgt := 80) dX8_leave_41 rfl (fun c1 => ?_) (fun c1 => ?_)
  · have h2 := h.1 c1
    refine ev_iinc (v := (x3 + 1)) (lv' := [(0, .ref 82), (1, .int x1), (2, .int x2), (3, .int (x3 + 1)), (4, .int x4)]) dX8_leave_80 3 rfl rfl (by decide) [1, 2, 3, 0, 4] rfl ?_
    refine ev_goto (tgt := 9) dX8_leave_83 rfl ?_
    refine EvW.less [0, 1, 2, 3] (lv' := [(0, .ref 82), (1, .int x1), (2, .int x2), (3, .int (x3 + 1))]) rfl ?_
    exact h2
  · have h3 := h.2 c1
    refine ev_iload dX8_leave_44 4 rfl ?_
    refine ev_iload_n dX8_leave_46 1 rfl ?_
    refine ev_icmp_eq (tgt := 80) dX8_leave_47 rfl (fun c4 => ?_) (fun c4 => ?_)
    · have h5 := h3.1 c4
      refine ev_iinc (v := (x3 + 1)) (lv' := [(0, .ref 82), (1, .int x1), (2, .int x2), (3, .int (x3 + 1)), (4, .int x4)]) dX8_leave_80 3 rfl rfl (by decide) [1, 2, 3, 0, 4] rfl ?_
      refine ev_goto (tgt := 9) dX8_leave_83 rfl ?_
      refine EvW.less [0, 1, 2, 3] (lv' := [(0, .ref 82), (1, .int x1), (2, .int x2), (3, .int (x3 + 1))]) rfl ?_
      exact h5
    · have h6 := h3.2 c4
      refine ev_aload_n dX8_leave_50 0 rfl (by decide) ?_
      refine ev_iload dX8_leave_51 4 rfl ?_
      refine ev_aload_n dX8_leave_53 0 rfl (by decide) ?_
      refine ev_getR' fl_8_201 rfl kd_82 rf_82_32 dX8_leave_54 ?_
      refine ev_iload_n dX8_leave_57 1 rfl ?_
      have p7 := h6.1
      have h8 := h6.2
      refine ev_iaload' (v := (μ 101 x1.toNatClampNeg)) kd_101 ln_101 p7 rfl dX8_leave_58 ?_
      refine ev_aload_n dX8_leave_59 0 rfl (by decide) ?_
      refine ev_getR' fl_8_50 rfl kd_82 rf_82_10 dX8_leave_60 ?_
      refine ev_iload_n dX8_leave_63 3 rfl ?_
      have p9 := h8.1
      have h10 := h8.2
      refine ev_iaload' (v := (μ 91 x3.toNatClampNeg)) kd_91 ln_91 p9 rfl dX8_leave_64 ?_
      refine ev_max ml_8_64 dX8_leave_65 (Nat.le_of_ble_eq_true rfl) (by decide) ⟨Nat.le_refl _, Nat.le_refl _⟩ ?_
      refine ev_aload_n dX8_leave_68 0 rfl (by decide) ?_
      refine ev_getR' fl_8_213 rfl kd_82 rf_82_36 dX8_leave_69 ?_
      refine ev_iload_n dX8_leave_72 3 rfl ?_
      have p11 := h10.1
      have h12 := h10.2
      refine ev_iaload' (v := (μ 105 x3.toNatClampNeg)) kd_105 ln_105 p11 rfl dX8_leave_73 ?_
      refine ev_iadd dX8_leave_74 ?_
      refine ev_iload_n dX8_leave_75 3 rfl ?_
      refine ev_iload_n dX8_leave_76 1 rfl ?_
      have p13 := h12.1
      have h14 := h12.2
      refine e2_callVv (μ1 := (comeN μ x4.toNatClampNeg ((imax (μ 101 x1.toNatClampNeg) (μ 91 x3.toNatClampNeg)) + (μ 105 x3.toNatClampNeg)) x3 x1)) (a := 82) (as := [.int x4, .int ((imax (μ 101 x1.toNatClampNeg) (μ 91 x3.toNatClampNeg)) + (μ 105 x3.toNatClampNeg)), .int x3, .int x1]) (st := []) ok_X8_come vi_X8_come ml_8_247 hcl_8 kd_82 dX8_leave_77 rfl rfl (Nat.le_of_ble_eq_true rfl) (Nat.le_of_ble_eq_true rfl) (by decide) (ct_X8_come (x4) (((imax (μ 101 x1.toNatClampNeg) (μ 91 x3.toNatClampNeg)) + (μ 105 x3.toNatClampNeg))) (x3) (x1) μ p13) ?_
      refine ev_iinc (v := (x3 + 1)) (lv' := [(0, .ref 82), (1, .int x1), (2, .int x2), (3, .int (x3 + 1)), (4, .int x4)]) dX8_leave_80 3 rfl rfl (by decide) [1, 2, 3, 0, 4] rfl ?_
      refine ev_goto (tgt := 9) dX8_leave_83 rfl ?_
      refine EvW.less [0, 1, 2, 3] (lv' := [(0, .ref 82), (1, .int x1), (2, .int x2), (3, .int (x3 + 1))]) rfl ?_
      exact h14
theorem sg_X8_leave_88 {G : GW} {K : Option Value → Mem → Prop} {μ : Mem} {α : Mem} (hf : WF α) {x1 x3 : Int32}  (h : ((7 ≤ x3) → K none μ) ∧ ((¬ (7 ≤ x3)) → ((x3 = x1) → Ev2 G mX8_leave 2 88 [(0, .ref 82), (1, .int x1), (3, .int (x3 + 1))] [] μ K) ∧ ((¬ (x3 = x1)) → (vp_in x1 7) ∧ (vp_in ((7 * x1) + x3) 49) ∧ (vp_in x3 7) ∧ Ev2 G mX8_leave 2 88 [(0, .ref 82), (1, .int x1), (3, .int (x3 + 1))] [] (comeN μ x3.toNatClampNeg ((μ 101 x1.toNatClampNeg) + (μ 83 ((7 * x1) + x3).toNatClampNeg)) (7 : Int32) x1) K))) : Ev2 G mX8_leave 2 88 [(0, .ref 82), (1, .int x1), (3, .int x3)] [] μ K := by
  refine ev_iload_n dX8_leave_88 2 rfl ?_
  refine ev_bipush (v := 7) dX8_leave_89 rfl ?_
  refine ev_icmp_ge (tgt := 131) dX8_leave_91 rfl (fun c1 => ?_) (fun c1 => ?_)
  · have h2 := h.1 c1
    exact ev_return dX8_leave_131 rfl rfl rfl ⟨rfl, h2⟩
  · have h3 := h.2 c1
    refine ev_iload_n dX8_leave_94 2 rfl ?_
    refine ev_iload_n dX8_leave_95 1 rfl ?_
    refine ev_icmp_eq (tgt := 125) dX8_leave_96 rfl (fun c4 => ?_) (fun c4 => ?_)
    · have h5 := h3.1 c4
      refine ev_iinc (v := (x3 + 1)) (lv' := [(0, .ref 82), (1, .int x1), (3, .int (x3 + 1))]) dX8_leave_125 2 rfl rfl (by decide) [1, 2, 0] rfl ?_
      refine ev_goto (tgt := 88) dX8_leave_128 rfl ?_
      exact h5
    · have h6 := h3.2 c4
      refine ev_aload_n dX8_leave_99 0 rfl (by decide) ?_
      refine ev_iload_n dX8_leave_100 2 rfl ?_
      refine ev_aload_n dX8_leave_101 0 rfl (by decide) ?_
      refine ev_getR' fl_8_201 rfl kd_82 rf_82_32 dX8_leave_102 ?_
      refine ev_iload_n dX8_leave_105 1 rfl ?_
      have p7 := h6.1
      have h8 := h6.2
      refine ev_iaload' (v := (μ 101 x1.toNatClampNeg)) kd_101 ln_101 p7 rfl dX8_leave_106 ?_
      refine ev_aload_n dX8_leave_107 0 rfl (by decide) ?_
      refine ev_getR' fl_8_14 rfl kd_82 rf_82_0 dX8_leave_108 ?_
      refine ev_bipush (v := 7) dX8_leave_111 rfl ?_
      refine ev_iload_n dX8_leave_113 1 rfl ?_
      refine ev_imul dX8_leave_114 ?_
      refine ev_iload_n dX8_leave_115 2 rfl ?_
      refine ev_iadd dX8_leave_116 ?_
      have p9 := h8.1
      have h10 := h8.2
      refine ev_iaload' (v := (μ 83 ((7 * x1) + x3).toNatClampNeg)) kd_83 ln_83 p9 rfl dX8_leave_117 ?_
      refine ev_iadd dX8_leave_118 ?_
      refine ev_bipush (v := 7) dX8_leave_119 rfl ?_
      refine ev_iload_n dX8_leave_121 1 rfl ?_
      have p11 := h10.1
      have h12 := h10.2
      refine e2_callVv (μ1 := (comeN μ x3.toNatClampNeg ((μ 101 x1.toNatClampNeg) + (μ 83 ((7 * x1) + x3).toNatClampNeg)) (7 : Int32) x1)) (a := 82) (as := [.int x3, .int ((μ 101 x1.toNatClampNeg) + (μ 83 ((7 * x1) + x3).toNatClampNeg)), .int 7, .int x1]) (st := []) ok_X8_come vi_X8_come ml_8_247 hcl_8 kd_82 dX8_leave_122 rfl rfl (Nat.le_of_ble_eq_true rfl) (Nat.le_of_ble_eq_true rfl) (by decide) (ct_X8_come (x3) (((μ 101 x1.toNatClampNeg) + (μ 83 ((7 * x1) + x3).toNatClampNeg))) (7) (x1) μ p11) ?_
      refine ev_iinc (v := (x3 + 1)) (lv' := [(0, .ref 82), (1, .int x1), (3, .int (x3 + 1))]) dX8_leave_125 2 rfl rfl (by decide) [1, 2, 0] rfl ?_
      refine ev_goto (tgt := 88) dX8_leave_128 rfl ?_
      exact h12
theorem onlyM.put4 (μ σ : Mem) : onlyM 101 104 μ (put4 101 μ σ) := fun a ha => put4_out (by omega)
theorem lp_X8_leaveF {G : GW} {α : Mem} (hf : WF α) {μ : Mem} (h : VM α μ) {p : Nat} (hp : p < 7) (τ : Mem) : ∀ j i, i + j = 7 → Ev2 G mX8_leave 2 88 [(0, .ref 82), (1, .int (nI p)), (3, .int (nI i))] [] (put4 101 μ (lvF (wA α) p i τ)) (fun v μ' => v = none ∧ μ' = put4 101 μ (lvF (wA α) p 7 τ)) := by
  intro j
  induction j with
  | zero =>
    intro i hi
    obtain rfl : i = 7 := by omega
    exact sg_X8_leave_88 hf ⟨fun _ => ⟨rfl, rfl⟩, fun c => absurd (nI_le (a := 7) (Nat.le_refl 7) (by omega)) c⟩
  | succ j ih =>
    intro i hi
    have hx := ih (i + 1) (by omega)
    generalize hσ : lvF (wA α) p i τ = σ at hx ⊢
    have ep : lvF (wA α) p (i + 1) τ = if ¬ i = p then comeS σ i (σ 0 p + wA α p i) 7 (nI p) else σ := by
      rw [← hσ]
      rfl
    rw [ep, ← nI_1] at hx
    obtain ⟨q1, q2⟩ := ix_7 hp (show i < 7 by omega)
    refine sg_X8_leave_88 hf ⟨fun c => absurd c (nI_ge (b := 7) (by omega) (by omega)), fun _ => ⟨fun c => ?_, fun c => ⟨vp_nI hp (by omega), q1, vp_nI (by omega) (by omega), ?_⟩⟩⟩
    · rw [if_neg (fun q => q ((nI_eq (by omega) (by omega)).mp c))] at hx
      exact hx
    · rw [if_pos (fun q => c (by rw [q]))] at hx
      have e101 : put4 101 μ σ 101 = σ 0 := put4_in (β := 101) (r := 0) (by omega)
      have e83 : put4 101 μ σ 83 = μ 83 := put4_out (by omega)
      have ew : wA α p i = α 1 (7 * p + i) := if_pos hp
      rw [q2, ix_nI (by omega), ix_nI (by omega), e101, e83, h.2.1 _ (by omega), ← ew, comeN_put]
      exact hx
theorem lp_X8_leaveH {G : GW} {α : Mem} (hf : WF α) {μ : Mem} {set : Int32} {p : Nat} (hp : p < 7) (hL : lvP α set (nI p) μ) (τ : Mem) : ∀ j i, i + j = aN α → Ev2 G mX8_leave 2 9 [(0, .ref 82), (1, .int (nI p)), (2, .int set), (3, .int (nI i))] [] (put4 101 μ (lvH (goA α) (tmA α) set p i τ)) (fun v μ' => v = none ∧ μ' = put4 101 μ (lvF (wA α) p 7 (lvH (goA α) (tmA α) set p (aN α) τ))) := by
  obtain ⟨hv, -, hs, ho⟩ := hL
  have hN := hf.1.1.2
  have cN : μ 82 4 = nI (aN α) := hv.n hf
  have e82 : ∀ σ, put4 101 μ σ 82 4 = nI (aN α) := fun σ => by rw [put4_out (by omega)]; exact cN
  intro j
  induction j with
  | zero =>
    intro i hi
    obtain rfl : i = aN α := by omega
    refine sg_X8_leave_9 hf ⟨fun _ => lp_X8_leaveF hf hv hp _ 7 0 rfl, fun c => ?_⟩
    rw [e82] at c
    exact absurd (nI_le (Nat.le_refl _) (by omega)) c
  | succ j ih =>
    intro i hi
    have hx := ih (i + 1) (by omega)
    generalize hσ : lvH (goA α) (tmA α) set p i τ = σ at hx ⊢
    have ep : lvH (goA α) (tmA α) set p (i + 1) τ = if bitB set (nI i) = true ∧ ¬ goA α i p = -1 ∧ ¬ goA α i p = nI p then comeS σ (goA α i p).toNatClampNeg (tmA α i (σ 0 p)) (nI i) (nI p) else σ := by
      rw [← hσ]
      rfl
    rw [ep, ← nI_1] at hx
    refine sg_X8_leave_9 hf ⟨fun c => ?_, fun _ => ⟨fun c => ?_, fun c => ⟨⟨hv.only hf.1 (onlyM.put4 μ σ) (by omega) (by omega), inB_h hf (by omega), inB_7 hp⟩, fun y hy => ?_⟩⟩⟩
    · rw [e82] at c
      exact absurd c (nI_ge (by omega) (by omega))
    · rw [if_neg (fun q => c (bitB_1.mp q.1))] at hx
      exact sg_X8_leave_38 hf ⟨fun _ => hx, fun q => absurd rfl q⟩
    · rw [ix_nI (by omega), ix_nI (by omega)] at hy
      subst hy
      refine sg_X8_leave_38 hf ⟨fun d => ?_, fun d => ⟨fun d2 => ?_, fun d2 => ⟨vp_nI hp (by omega), vp_nI (by omega) (by omega), vp_nI (by omega) (by omega), ?_, ?_⟩⟩⟩
      · rw [if_neg (fun q => q.2.1 d)] at hx
        exact hx
      · rw [if_neg (fun q => q.2.2 d2)] at hx
        exact hx
      · rcases goes_range (hf.2.2.2.1 i (by omega)) p with q | ⟨q, hq, e⟩
        · exact absurd q d
        · rw [e]
          exact vp_nI hq (by omega)
      · rw [if_pos ⟨bitB_1.mpr c, d, d2⟩] at hx
        have e101 : put4 101 μ σ 101 = σ 0 := put4_in (β := 101) (r := 0) (by omega)
        have e91 : put4 101 μ σ 91 = μ 91 := put4_out (by omega)
        have e105 : put4 101 μ σ 105 = μ 105 := put4_out (by omega)
        rw [ix_nI (by omega), ix_nI (by omega), e101, e91, e105, (hv.h1 (by omega)).2.2.2.2.2, ho i (by omega), comeN_put]
        exact hx
theorem ct_X8_leave {G : GW} {α : Mem} (hf : WF α) (x1 x2 : Int32) (μ : Mem) (hp : lvP α x2 x1 μ) : Ev2 G mX8_leave 2 0 [(0, .ref 82), (1, .int x1), (2, .int x2)] [] μ (fun v μ' => v = none ∧ μ' = put4 101 μ (leaveS (goA α) (tmA α) (wA α) (aN α) x2 x1.toNatClampNeg (get4 101 μ))) := by
  obtain ⟨p, hp7, rfl⟩ := inB_p hp.2.1
  have e1 : mset μ 104 p 1 = put4 101 μ (mset (get4 101 μ) 3 p 1) := by
    have := mset_put4 (β := 101) (μ := μ) (σ := get4 101 μ) (r := 3) (k := p) (x := 1) (by omega)
    rw [put4_get4] at this
    exact this
  refine sg_X8_leave_0 hf ⟨vp_nI hp7 (by omega), ?_⟩
  rw [ix_nI (by omega), e1]
  exact lp_X8_leaveH hf hp7 hp (mset (get4 101 μ) 3 p 1) (aN α) 0 (by omega)
theorem sg_X8_goFrom_0 {G : GW} {K : Option Value → Mem → Prop} {μ : Mem} {α : Mem} (hf : WF α) {x1 x2 : Int32}  (h : Ev2 G mX8_goFrom 4 2 [(0, .ref 82), (1, .int x1), (2, .int x2), (3, .int 0)] [] μ K) : Ev2 G mX8_goFrom 4 0 [(0, .ref 82), (1, .int x1), (2, .int x2)] [] μ K := by
  refine ev_iconst (v := 0) dX8_goFrom_0 rfl ?_
  refine ev_istore_n (lv' := [(0, .ref 82), (1, .int x1), (2, .int x2), (3, .int 0)]) dX8_goFrom_1 (by decide) [1, 2, 3, 0] rfl ?_
  exact h
theorem sg_X8_goFrom_2 {G : GW} {K : Option Value → Mem → Prop} {μ : Mem} {α : Mem} (hf : WF α) {x1 x2 x3 : Int32}  (h : (((μ 82 4) ≤ x3) → Ev2 G mX8_goFrom 4 29 [(0, .ref 82), (1, .int x1), (2, .int x2), (3, .int 0)] [] μ K) ∧ ((¬ ((μ 82 4) ≤ x3)) → (VM α μ ∧ inB x3 0 (α 0 0 - 1) = true) ∧ ∀ (z6 : Int32) (μ7 : Mem), (z6 = outA α x3.toNatClampNeg ∧ onlyM 99 100 μ μ7) → (vp_in x3 8) ∧ Ev2 G mX8_goFrom 4 2 [(0, .ref 82), (1, .int x1), (2, .int x2), (3, .int (x3 + 1))] [] (mset μ7 105 x3.toNatClampNeg z6) K)) : Ev2 G mX8_goFrom 4 2 [(0, .ref 82), (1, .int x1), (2, .int x2), (3, .int x3)] [] μ K := by
  refine ev_iload_n dX8_goFrom_2 3 rfl ?_
  refine ev_aload_n dX8_goFrom_3 0 rfl (by decide) ?_
  refine ev_getI' (v := (μ 82 4)) fl_8_7 rfl kd_82 rfl dX8_goFrom_4 ?_
  refine ev_icmp_ge (tgt := 27) dX8_goFrom_7 rfl (fun c1 => ?_) (fun c1 => ?_)
  · have h2 := h.1 c1
    refine ev_iconst (v := 0) dX8_goFrom_27 rfl ?_
    refine ev_istore_n (lv' := [(0, .ref 82), (1, .int x1), (2, .int x2), (3, .int 0)]) dX8_goFrom_28 (by decide) [1, 2, 3, 0] rfl ?_
    exact h2
  · have h3 := h.2 c1
    refine ev_aload_n dX8_goFrom_10 0 rfl (by decide) ?_
    refine ev_getR' fl_8_213 rfl kd_82 rf_82_36 dX8_goFrom_11 ?_
    refine ev_iload_n dX8_goFrom_14 3 rfl ?_
    refine ev_aload_n dX8_goFrom_15 0 rfl (by decide) ?_
    refine ev_iload_n dX8_goFrom_16 3 rfl ?_
    have p4 := h3.1
    have h5 := h3.2
    refine e2_callVr (Rl := fun z6 μ7 => z6 = outA α x3.toNatClampNeg ∧ onlyM 99 100 μ μ7) (a := 82) (as := [.int x3]) (st := [.int x3, .ref 105]) ok_X8_outOf vi_X8_outOf ml_8_69 hcl_8 kd_82 dX8_goFrom_17 rfl rfl (Nat.le_of_ble_eq_true rfl) (Nat.le_of_ble_eq_true rfl) (by decide) (ct_X8_outOf hf (x3) μ p4) (fun z6 μ7 r8 => ?_)
    have h9 := h5 z6 μ7 r8
    have p10 := h9.1
    have h11 := h9.2
    refine ev_iastore' (j := x3.toNatClampNeg) kd_105 ln_105 p10 rfl dX8_goFrom_20 ?_
    refine ev_iinc (v := (x3 + 1)) (lv' := [(0, .ref 82), (1, .int x1), (2, .int x2), (3, .int (x3 + 1))]) dX8_goFrom_21 3 rfl rfl (by decide) [1, 2, 3, 0] rfl ?_
    refine ev_goto (tgt := 2) dX8_goFrom_24 rfl ?_
    exact h11
theorem sg_X8_goFrom_29 {G : GW} {K : Option Value → Mem → Prop} {μ : Mem} {α : Mem} (hf : WF α) {x1 x2 x3 : Int32}  (h : ((7 ≤ x3) → (vp_in x1 7) ∧ Ev2 G mX8_goFrom 4 79 [(0, .ref 82), (2, .int x2), (3, .int 0)] [] (mset μ 101 x1.toNatClampNeg 0) K) ∧ ((¬ (7 ≤ x3)) → (vp_in x3 7) ∧ (vp_in x3 7) ∧ (vp_in x3 7) ∧ (vp_in x3 7) ∧ Ev2 G mX8_goFrom 4 29 [(0, .ref 82), (1, .int x1), (2, .int x2), (3, .int (x3 + 1))] [] (mset (mset (mset (mset μ 101 x3.toNatClampNeg 2000000000) 102 x3.toNatClampNeg (-1)) 103 x3.toNatClampNeg (-1)) 104 x3.toNatClampNeg 0) K)) : Ev2 G mX8_goFrom 4 29 [(0, .ref 82), (1, .int x1), (2, .int x2), (3, .int x3)] [] μ K := by
  refine ev_iload_n dX8_goFrom_29 3 rfl ?_
  refine ev_bipush (v := 7) dX8_goFrom_30 rfl ?_
  refine ev_icmp_ge (tgt := 70) dX8_goFrom_32 rfl (fun c1 => ?_) (fun c1 => ?_)
  · have h2 := h.1 c1
    refine ev_aload_n dX8_goFrom_70 0 rfl (by decide) ?_
    refine ev_getR' fl_8_201 rfl kd_82 rf_82_32 dX8_goFrom_71 ?_
    refine ev_iload_n dX8_goFrom_74 1 rfl ?_
    refine ev_iconst (v := 0) dX8_goFrom_75 rfl ?_
    have p4 := h2.1
    have h5 := h2.2
    refine ev_iastore' (j := x1.toNatClampNeg) kd_101 ln_101 p4 rfl dX8_goFrom_76 ?_
    refine ev_iconst (v := 0) dX8_goFrom_77 rfl ?_
    refine ev_istore_n (lv' := [(0, .ref 82), (1, .int x1), (2, .int x2), (3, .int 0)]) dX8_goFrom_78 (by decide) [1, 2, 3, 0] rfl ?_
    refine EvW.less [0, 2, 3] (lv' := [(0, .ref 82), (2, .int x2), (3, .int 0)]) rfl ?_
    exact h5
  · have h3 := h.2 c1
    refine ev_aload_n dX8_goFrom_35 0 rfl (by decide) ?_
    refine ev_getR' fl_8_201 rfl kd_82 rf_82_32 dX8_goFrom_36 ?_
    refine ev_iload_n dX8_goFrom_39 3 rfl ?_
    refine ev_ldc dX8_goFrom_40 co_8_251 ?_
    have p6 := h3.1
    have h7 := h3.2
    refine ev_iastore' (j := x3.toNatClampNeg) kd_101 ln_101 p6 rfl dX8_goFrom_42 ?_
    refine ev_aload_n dX8_goFrom_43 0 rfl (by decide) ?_
    refine ev_getR' fl_8_204 rfl kd_82 rf_82_33 dX8_goFrom_44 ?_
    refine ev_iload_n dX8_goFrom_47 3 rfl ?_
    refine ev_iconst (v := (-1)) dX8_goFrom_48 rfl ?_
    have p8 := h7.1
    have h9 := h7.2
    refine ev_iastore' (j := x3.toNatClampNeg) kd_102 ln_102 p8 rfl dX8_goFrom_49 ?_
    refine ev_aload_n dX8_goFrom_50 0 rfl (by decide) ?_
    refine ev_getR' fl_8_207 rfl kd_82 rf_82_34 dX8_goFrom_51 ?_
    refine ev_iload_n dX8_goFrom_54 3 rfl ?_
    refine ev_iconst (v := (-1)) dX8_goFrom_55 rfl ?_
    have p10 := h9.1
    have h11 := h9.2
    refine ev_iastore' (j := x3.toNatClampNeg) kd_103 ln_103 p10 rfl dX8_goFrom_56 ?_
    refine ev_aload_n dX8_goFrom_57 0 rfl (by decide) ?_
    refine ev_getR' fl_8_210 rfl kd_82 rf_82_35 dX8_goFrom_58 ?_
    refine ev_iload_n dX8_goFrom_61 3 rfl ?_
    refine ev_iconst (v := 0) dX8_goFrom_62 rfl ?_
    have p12 := h11.1
    have h13 := h11.2
    refine ev_zastore' (j := x3.toNatClampNeg) kd_104 ln_104 p12 rfl rfl dX8_goFrom_63 ?_
    refine ev_iinc (v := (x3 + 1)) (lv' := [(0, .ref 82), (1, .int x1), (2, .int x2), (3, .int (x3 + 1))]) dX8_goFrom_64 3 rfl rfl (by decide) [1, 2, 3, 0] rfl ?_
    refine ev_goto (tgt := 29) dX8_goFrom_67 rfl ?_
    exact h13
theorem sg_X8_goFrom_79 {G : GW} {K : Option Value → Mem → Prop} {μ : Mem} {α : Mem} (hf : WF α) {x2 x3 : Int32}  (h : ((7 ≤ x3) → K none μ) ∧ ((¬ (7 ≤ x3)) → Ev2 G mX8_goFrom 4 91 [(0, .ref 82), (2, .int x2), (3, .int x3), (4, .int (-1)), (5, .int 0)] [] μ K)) : Ev2 G mX8_goFrom 4 79 [(0, .ref 82), (2, .int x2), (3, .int x3)] [] μ K := by
  refine ev_iload_n dX8_goFrom_79 2 rfl ?_
  refine ev_bipush (v := 7) dX8_goFrom_80 rfl ?_
  refine ev_icmp_ge (tgt := 159) dX8_goFrom_82 rfl (fun c1 => ?_) (fun c1 => ?_)
  · have h2 := h.1 c1
    exact ev_return dX8_goFrom_159 rfl rfl rfl ⟨rfl, h2⟩
  · have h3 := h.2 c1
    refine ev_iconst (v := (-1)) dX8_goFrom_85 rfl ?_
    refine ev_istore (lv' := [(0, .ref 82), (2, .int x2), (3, .int x3), (4, .int (-1))]) dX8_goFrom_86 (by decide) [1, 2, 3, 0] rfl ?_
    refine ev_iconst (v := 0) dX8_goFrom_88 rfl ?_
    refine ev_istore (lv' := [(0, .ref 82), (2, .int x2), (3, .int x3), (4, .int (-1)), (5, .int 0)]) dX8_goFrom_89 (by decide) [1, 2, 3, 4, 0] rfl ?_
    exact h3
theorem sg_X8_goFrom_91 {G : GW} {K : Option Value → Mem → Prop} {μ : Mem} {α : Mem} (hf : WF α) {x2 x3 x4 x5 : Int32}  (h : ((7 ≤ x5) → (lvP α x2 x4 μ) ∧ Ev2 G mX8_goFrom 4 79 [(0, .ref 82), (2, .int x2), (3, .int (x3 + 1))] [] (put4 101 μ (leaveS (goA α) (tmA α) (wA α) (aN α) x2 x4.toNatClampNeg (get4 101 μ))) K) ∧ ((¬ (7 ≤ x5)) → (vp_in x5 7) ∧ ((¬ (μ 104 x5.toNatClampNeg) = 0) → Ev2 G mX8_goFrom 4 91 [(0, .ref 82), (2, .int x2), (3, .int x3), (4, .int x4), (5, .int (x5 + 1))] [] μ K) ∧ (((μ 104 x5.toNatClampNeg) = 0) → ((x4 = (-1)) → Ev2 G mX8_goFrom 4 91 [(0, .ref 82), (2, .int x2), (3, .int x3), (4, .int x5), (5, .int (x5 + 1))] [] μ K) ∧ ((¬ (x4 = (-1))) → (vp_in x5 7) ∧ (vp_in x4 7) ∧ (((μ 101 x4.toNatClampNeg) ≤ (μ 101 x5.toNatClampNeg)) → Ev2 G mX8_goFrom 4 91 [(0, .ref 82), (2, .int x2), (3, .int x3), (4, .int x4), (5, .int (x5 + 1))] [] μ K) ∧ ((¬ ((μ 101 x4.toNatClampNeg) ≤ (μ 101 x5.toNatClampNeg))) → Ev2 G mX8_goFrom 4 91 [(0, .ref 82), (2, .int x2), (3, .int x3), (4, .int x5), (5, .int (x5 + 1))] [] μ K))))) : Ev2 G mX8_goFrom 4 91 [(0, .ref 82), (2, .int x2), (3, .int x3), (4, .int x4), (5, .int x5)] [] μ K := by
  refine ev_iload dX8_goFrom_91 4 rfl ?_
  refine ev_bipush (v := 7) dX8_goFrom_93 rfl ?_
  refine ev_icmp_ge (tgt := 146) dX8_goFrom_95 rfl (fun c1 => ?_) (fun c1 => ?_)
  · have h2 := h.1 c1
    refine ev_aload_n dX8_goFrom_146 0 rfl (by decide) ?_
    refine ev_iload dX8_goFrom_147 3 rfl ?_
    refine ev_iload_n dX8_goFrom_149 1 rfl ?_
    have p4 := h2.1
    have h5 := h2.2
    refine e2_callVv (μ1 := (put4 101 μ (leaveS (goA α) (tmA α) (wA α) (aN α) x2 x4.toNatClampNeg (get4 101 μ)))) (a := 82) (as := [.int x4, .int x2]) (st := []) ok_X8_leave vi_X8_leave ml_8_252 hcl_8 kd_82 dX8_goFrom_150 rfl rfl (Nat.le_of_ble_eq_true rfl) (Nat.le_of_ble_eq_true rfl) (by decide) (ct_X8_leave hf (x4) (x2) μ p4) ?_
    refine ev_iinc (v := (x3 + 1)) (lv' := [(0, .ref 82), (2, .int x2), (3, .int (x3 + 1)), (4, .int x4), (5, .int x5)]) dX8_goFrom_153 2 rfl rfl (by decide) [1, 2, 0, 3, 4] rfl ?_
    refine ev_goto (tgt := 79) dX8_goFrom_156 rfl ?_
    refine EvW.less [0, 1, 2] (lv' := [(0, .ref 82), (2, .int x2), (3, .int (x3 + 1))]) rfl ?_
    exact h5
  · have h3 := h.2 c1
    refine ev_aload_n dX8_goFrom_98 0 rfl (by decide) ?_
    refine ev_getR' fl_8_210 rfl kd_82 rf_82_35 dX8_goFrom_99 ?_
    refine ev_iload dX8_goFrom_102 4 rfl ?_
    have p6 := h3.1
    have h7 := h3.2
    refine ev_zaload' (v := (μ 104 x5.toNatClampNeg)) kd_104 ln_104 p6 rfl dX8_goFrom_104 ?_
    refine ev_if_ne (tgt := 136) dX8_goFrom_105 rfl (fun c8 => ?_) (fun c8 => ?_)
    · have h9 := h7.1 c8
      refine ev_iload dX8_goFrom_136 3 rfl ?_
      refine ev_istore (lv' := [(0, .ref 82), (2, .int x2), (3, .int x3), (4, .int x4), (5, .int x5)]) dX8_goFrom_138 (by decide) [1, 2, 3, 0, 4] rfl ?_
      refine ev_iinc (v := (x5 + 1)) (lv' := [(0, .ref 82), (2, .int x2), (3, .int x3), (4, .int x4), (5, .int (x5 + 1))]) dX8_goFrom_140 4 rfl rfl (by decide) [1, 2, 3, 4, 0] rfl ?_
      refine ev_goto (tgt := 91) dX8_goFrom_143 rfl ?_
      exact h9
    · have h10 := h7.2 c8
      refine ev_iload dX8_goFrom_108 3 rfl ?_
      refine ev_iconst (v := (-1)) dX8_goFrom_110 rfl ?_
      refine ev_icmp_eq (tgt := 131) dX8_goFrom_111 rfl (fun c11 => ?_) (fun c11 => ?_)
      · have h12 := h10.1 c11
        refine ev_iload dX8_goFrom_131 4 rfl ?_
        refine ev_goto (tgt := 138) dX8_goFrom_133 rfl ?_
        refine ev_istore (lv' := [(0, .ref 82), (2, .int x2), (3, .int x3), (4, .int x5), (5, .int x5)]) dX8_goFrom_138 (by decide) [1, 2, 3, 0, 4] rfl ?_
        refine ev_iinc (v := (x5 + 1)) (lv' := [(0, .ref 82), (2, .int x2), (3, .int x3), (4, .int x5), (5, .int (x5 + 1))]) dX8_goFrom_140 4 rfl rfl (by decide) [1, 2, 3, 4, 0] rfl ?_
        refine ev_goto (tgt := 91) dX8_goFrom_143 rfl ?_
        exact h12
      · have h13 := h10.2 c11
        refine ev_aload_n dX8_goFrom_114 0 rfl (by decide) ?_
        refine ev_getR' fl_8_201 rfl kd_82 rf_82_32 dX8_goFrom_115 ?_
        refine ev_iload dX8_goFrom_118 4 rfl ?_
        have p14 := h13.1
        have h15 := h13.2
        refine ev_iaload' (v := (μ 101 x5.toNatClampNeg)) kd_101 ln_101 p14 rfl dX8_goFrom_120 ?_
        refine ev_aload_n dX8_goFrom_121 0 rfl (by decide) ?_
        refine ev_getR' fl_8_201 rfl kd_82 rf_82_32 dX8_goFrom_122 ?_
        refine ev_iload dX8_goFrom_125 3 rfl ?_
        have p16 := h15.1
        have h17 := h15.2
        refine ev_iaload' (v := (μ 101 x4.toNatClampNeg)) kd_101 ln_101 p16 rfl dX8_goFrom_127 ?_
        refine ev_icmp_ge (tgt := 136) dX8_goFrom_128 rfl (fun c18 => ?_) (fun c18 => ?_)
        · have h19 := h17.1 c18
          refine ev_iload dX8_goFrom_136 3 rfl ?_
          refine ev_istore (lv' := [(0, .ref 82), (2, .int x2), (3, .int x3), (4, .int x4), (5, .int x5)]) dX8_goFrom_138 (by decide) [1, 2, 3, 0, 4] rfl ?_
          refine ev_iinc (v := (x5 + 1)) (lv' := [(0, .ref 82), (2, .int x2), (3, .int x3), (4, .int x4), (5, .int (x5 + 1))]) dX8_goFrom_140 4 rfl rfl (by decide) [1, 2, 3, 4, 0] rfl ?_
          refine ev_goto (tgt := 91) dX8_goFrom_143 rfl ?_
          exact h19
        · have h20 := h17.2 c18
          refine ev_iload dX8_goFrom_131 4 rfl ?_
          refine ev_goto (tgt := 138) dX8_goFrom_133 rfl ?_
          refine ev_istore (lv' := [(0, .ref 82), (2, .int x2), (3, .int x3), (4, .int x5), (5, .int x5)]) dX8_goFrom_138 (by decide) [1, 2, 3, 0, 4] rfl ?_
          refine ev_iinc (v := (x5 + 1)) (lv' := [(0, .ref 82), (2, .int x2), (3, .int x3), (4, .int x5), (5, .int (x5 + 1))]) dX8_goFrom_140 4 rfl rfl (by decide) [1, 2, 3, 4, 0] rfl ?_
          refine ev_goto (tgt := 91) dX8_goFrom_143 rfl ?_
          exact h20
def gfK (α μ : Mem) (set : Int32) (a : Nat) : Option Value → Mem → Prop := fun v μ' => v = none ∧ (onlyM 99 105 μ μ' ∧ eq7 (get4 101 μ') (refS α set a))
theorem lp_X8_pick {G : GW} {α : Mem} (hf : WF α) {K : Option Value → Mem → Prop} {set x3 : Int32} {ν : Mem} {p : Nat} (hp : p < 7) (hpk : pickS (get4 101 ν) 7 = nI p) (hL : lvP α set (nI p) ν) (hk : Ev2 G mX8_goFrom 4 79 [(0, .ref 82), (2, .int set), (3, .int (x3 + 1))] [] (put4 101 ν (leaveS (goA α) (tmA α) (wA α) (aN α) set p (get4 101 ν))) K) : ∀ j i, i + j = 7 → Ev2 G mX8_goFrom 4 91 [(0, .ref 82), (2, .int set), (3, .int x3), (4, .int (pickS (get4 101 ν) i)), (5, .int (nI i))] [] ν K := by
  intro j
  induction j with
  | zero =>
    intro i hi
    obtain rfl : i = 7 := by omega
    refine sg_X8_goFrom_91 hf ⟨fun _ => ?_, fun c => absurd (nI_le (a := 7) (Nat.le_refl 7) (by omega)) c⟩
    rw [hpk, ix_nI (by omega)]
    exact ⟨hL, hk⟩
  | succ j ih =>
    intro i hi
    have h := ih (i + 1) (by omega)
    have ep : pickS (get4 101 ν) (i + 1) = if ν 104 i = 0 ∧ (pickS (get4 101 ν) i = -1 ∨ ν 101 i < ν 101 (pickS (get4 101 ν) i).toNatClampNeg) then nI i else pickS (get4 101 ν) i := rfl
    rw [ep, ← nI_1] at h
    refine sg_X8_goFrom_91 hf ⟨fun c => absurd c (nI_ge (b := 7) (by omega) (by omega)), fun _ => ⟨vp_nI (by omega) (by omega), ?_⟩⟩
    rw [ix_nI (by omega)]
    refine ⟨fun c => ?_, fun c => ⟨fun c2 => ?_, fun c2 => ⟨vp_nI (by omega) (by omega), ?_, fun c3 => ?_, fun c3 => ?_⟩⟩⟩
    · rw [if_neg (fun q => c q.1)] at h
      exact h
    · rw [if_pos ⟨c, Or.inl c2⟩] at h
      exact h
    · rcases pickS_range (σ := get4 101 ν) i with q | ⟨u, hu, q, -⟩
      · exact absurd q c2
      · rw [q]
        exact vp_nI (by omega) (by omega)
    · rw [if_neg (fun q => q.2.elim c2 (fun q => absurd q (Int32.not_lt.mpr c3)))] at h
      exact h
    · rw [if_pos ⟨c, Or.inr (Int32.not_le.mp c3)⟩] at h
      exact h
theorem lp_X8_goC {G : GW} {α : Mem} (hf : WF α) {μ : Mem} {set : Int32} (hs : setOK (aN α) set) {a : Nat} : ∀ f i (ν : Mem), i + f = 7 → VM α ν → onlyM 99 105 μ ν → (∀ h, h < aN α → ν 105 h = outA α h) → pkOK (goA α) (tmA α) (wA α) (aN α) set f (get4 101 ν) → eq7 (fullR (goA α) (tmA α) (wA α) (aN α) set f (get4 101 ν)) (refS α set a) → Ev2 G mX8_goFrom 4 79 [(0, .ref 82), (2, .int set), (3, .int (nI i))] [] ν (gfK α μ set a) := by
  intro f
  induction f with
  | zero =>
    intro i ν hi hv ho h5 hk he
    obtain rfl : i = 7 := by omega
    exact sg_X8_goFrom_79 hf ⟨fun _ => ⟨rfl, ho, he⟩, fun c => absurd (nI_le (a := 7) (Nat.le_refl 7) (by omega)) c⟩
  | succ f ih =>
    intro i ν hi hv ho h5 hk he
    obtain ⟨⟨p, hp, e⟩, hk2⟩ := hk
    have he2 : eq7 (fullR (goA α) (tmA α) (wA α) (aN α) set f (leaveS (goA α) (tmA α) (wA α) (aN α) set p (get4 101 ν))) (refS α set a) := by
      have : fullR (goA α) (tmA α) (wA α) (aN α) set (f + 1) (get4 101 ν) = fullR (goA α) (tmA α) (wA α) (aN α) set f (leaveS (goA α) (tmA α) (wA α) (aN α) set (pickS (get4 101 ν) 7).toNatClampNeg (get4 101 ν)) := rfl
      rw [this, e, ix_nI (by omega)] at he
      exact he
    rw [e, ix_nI (by omega)] at hk2
    refine sg_X8_goFrom_79 hf ⟨fun c => absurd c (nI_ge (b := 7) (by omega) (by omega)), fun _ => ?_⟩
    refine lp_X8_pick hf hp e ⟨hv, inB_7 hp, hs, h5⟩ ?_ 7 0 rfl
    have hgo := (envA_ok hf hs).1
    have hg : eq7 (get4 101 (put4 101 ν (leaveS (goA α) (tmA α) (wA α) (aN α) set p (get4 101 ν)))) (leaveS (goA α) (tmA α) (wA α) (aN α) set p (get4 101 ν)) := eq4.gp.to7
    have hg4 : eq4 (get4 101 (put4 101 ν (leaveS (goA α) (tmA α) (wA α) (aN α) set p (get4 101 ν)))) (leaveS (goA α) (tmA α) (wA α) (aN α) set p (get4 101 ν)) := eq4.gp
    rw [nI_1]
    refine ih (i + 1) _ (by omega) (hv.only hf.1 (onlyM.put4 _ _) (by omega) (by omega)) (ho.tr ((onlyM.put4 _ _).wide (by omega) (by omega))) (fun h hh => by rw [put4_out (by omega)]; exact h5 h hh) ?_ ((eq7.full hf.1.1.2 hgo f hg).tr he2)
    -- the same picks
    have pk : ∀ f (σ τ : Mem), eq4 σ τ → pkOK (goA α) (tmA α) (wA α) (aN α) set f τ → pkOK (goA α) (tmA α) (wA α) (aN α) set f σ := by
      intro f
      induction f with
      | zero => intro σ τ _ _; exact True.intro
      | succ f ih =>
        intro σ τ h4 ⟨h1, h2⟩
        refine ⟨by rw [h4.pick 7]; exact h1, ?_⟩
        rw [h4.pick 7]
        exact ih _ _ (h4.leave _ _ _ _ _ _) h2
    exact pk f _ _ hg4 hk2
theorem lp_X8_goB {G : GW} {α : Mem} (hf : WF α) {K : Option Value → Mem → Prop} {set : Int32} {a : Nat} (ha : a < 7) (ν : Mem) (hk : Ev2 G mX8_goFrom 4 79 [(0, .ref 82), (2, .int set), (3, .int 0)] [] (put4 101 ν (initS 2000000000 (-1) a (get4 101 ν))) K) : ∀ j i, i + j = 7 → Ev2 G mX8_goFrom 4 29 [(0, .ref 82), (1, .int (nI a)), (2, .int set), (3, .int (nI i))] [] (put4 101 ν (fun r k => if k < i then initS 2000000000 (-1) 7 (get4 101 ν) r k else get4 101 ν r k)) K := by
  intro j
  induction j with
  | zero =>
    intro i hi
    obtain rfl : i = 7 := by omega
    refine sg_X8_goFrom_29 hf ⟨fun _ => ⟨vp_nI ha (by omega), ?_⟩, fun c => absurd (nI_le (a := 7) (Nat.le_refl 7) (by omega)) c⟩
    rw [ix_nI (by omega)]
    have e := mset_put4 (β := 101) (μ := ν) (σ := fun r k => if k < 7 then initS 2000000000 (-1) 7 (get4 101 ν) r k else get4 101 ν r k) (r := 0) (k := a) (x := 0) (by omega)
    rw [Nat.add_zero] at e
    rw [e]
    have e2 : put4 101 ν (mset (fun r k => if k < 7 then initS 2000000000 (-1) 7 (get4 101 ν) r k else get4 101 ν r k) 0 a 0) = put4 101 ν (initS 2000000000 (-1) a (get4 101 ν)) := by
      refine put4_congr fun r hr => ?_
      funext k
      unfold mset initS
      by_cases hk7 : k < 7
      · rcases (show r = 0 ∨ r = 1 ∨ r = 2 ∨ r = 3 by omega) with rfl | rfl | rfl | rfl
        · by_cases ck : k = a
          · simp [ck, ha]
          · simp [ck, hk7, show k ≠ 7 by omega]
        · simp [hk7]
        · simp [hk7]
        · simp [hk7]
      · have : k ≠ a := by omega
        simp [hk7, this]
    rw [e2]
    exact hk
  | succ j ih =>
    intro i hi
    have h := ih (i + 1) (by omega)
    rw [← nI_1] at h
    have hv : vp_in (nI i) 7 := vp_nI (by omega) (by omega)
    refine sg_X8_goFrom_29 hf ⟨fun c => absurd c (nI_ge (b := 7) (by omega) (by omega)), fun _ => ⟨hv, hv, hv, hv, ?_⟩⟩
    rw [ix_nI (by omega)]
    have a1 := mset_put4 (β := 101) (μ := ν) (σ := fun r k => if k < i then initS 2000000000 (-1) 7 (get4 101 ν) r k else get4 101 ν r k) (r := 0) (k := i) (x := 2000000000) (by omega)
    rw [Nat.add_zero] at a1
    have a2 := fun σ => mset_put4 (β := 101) (μ := ν) (σ := σ) (r := 1) (k := i) (x := -1) (by omega)
    have a3 := fun σ => mset_put4 (β := 101) (μ := ν) (σ := σ) (r := 2) (k := i) (x := -1) (by omega)
    have a4 := fun σ => mset_put4 (β := 101) (μ := ν) (σ := σ) (r := 3) (k := i) (x := 0) (by omega)
    rw [a1, show (102 : Nat) = 101 + 1 from rfl, a2, show (103 : Nat) = 101 + 2 from rfl, a3, show (104 : Nat) = 101 + 3 from rfl, a4]
    have e : put4 101 ν (mset (mset (mset (mset (fun r k => if k < i then initS 2000000000 (-1) 7 (get4 101 ν) r k else get4 101 ν r k) 0 i 2000000000) 1 i (-1)) 2 i (-1)) 3 i 0) = put4 101 ν (fun r k => if k < i + 1 then initS 2000000000 (-1) 7 (get4 101 ν) r k else get4 101 ν r k) := by
      refine put4_congr fun r hr => ?_
      funext k
      by_cases hk : k = i
      · subst hk
        rcases (show r = 0 ∨ r = 1 ∨ r = 2 ∨ r = 3 by omega) with rfl | rfl | rfl | rfl
        · simp [mset, initS, show k < 7 by omega, show k ≠ 7 by omega]
        · simp [mset, initS, show k < 7 by omega]
        · simp [mset, initS, show k < 7 by omega]
        · simp [mset, initS, show k < 7 by omega]
      · have : (k < i + 1) = (k < i) := by
          apply propext
          omega
        simp only [mset, hk, and_false, if_false, this]
    rw [e]
    exact h
theorem lp_X8_goA {G : GW} {α : Mem} (hf : WF α) {μ : Mem} (hv : VM α μ) {set : Int32} {a : Nat} {K : Option Value → Mem → Prop} (hk : ∀ ν, onlyM 99 105 μ ν → VM α ν → (∀ h, h < aN α → ν 105 h = outA α h) → Ev2 G mX8_goFrom 4 29 [(0, .ref 82), (1, .int (nI a)), (2, .int set), (3, .int 0)] [] ν K) : ∀ j i (ν : Mem), i + j = aN α → onlyM 99 105 μ ν → VM α ν → (∀ h, h < i → ν 105 h = outA α h) → Ev2 G mX8_goFrom 4 2 [(0, .ref 82), (1, .int (nI a)), (2, .int set), (3, .int (nI i))] [] ν K := by
  have hN := hf.1.1.2
  intro j
  induction j with
  | zero =>
    intro i ν hi ho hvn h5
    obtain rfl : i = aN α := by omega
    refine sg_X8_goFrom_2 hf ⟨fun _ => hk ν ho hvn h5, fun c => ?_⟩
    rw [hvn.n hf] at c
    exact absurd (nI_le (Nat.le_refl _) (by omega)) c
  | succ j ih =>
    intro i ν hi ho hvn h5
    refine sg_X8_goFrom_2 hf ⟨fun c => ?_, fun _ => ⟨⟨hvn, inB_h hf (by omega)⟩, fun z ν2 hz => ⟨vp_nI (by omega) (by omega), ?_⟩⟩⟩
    · rw [hvn.n hf] at c
      exact absurd c (nI_ge (by omega) (by omega))
    · obtain ⟨hz, h2⟩ := hz
      rw [ix_nI (by omega)] at hz ⊢
      rw [nI_1]
      have hs : onlyM 105 105 ν2 (mset ν2 105 i z) := onlyM.set (by omega) (by omega)
      refine ih (i + 1) _ (by omega) (ho.tr ((h2.wide (by omega) (by omega)).tr (hs.wide (by omega) (by omega)))) ((hvn.only hf.1 h2 (by omega) (by omega)).only hf.1 hs (by omega) (by omega)) (fun h hh => ?_)
      by_cases c : h = i
      · rw [c, mset_same]
        exact hz
      · rw [mset_other (by omega), h2 105 (by omega)]
        exact h5 h (by omega)
theorem ct_X8_goFrom {G : GW} {α : Mem} (hf : WF α) (x1 x2 : Int32) (μ : Mem) (hp : VM α μ ∧ inB x1 0 6 = true ∧ setOK (aN α) x2) : Ev2 G mX8_goFrom 4 0 [(0, .ref 82), (1, .int x1), (2, .int x2)] [] μ (fun v μ' => v = none ∧ (onlyM 99 105 μ μ' ∧ eq7 (get4 101 μ') (refS α x2 x1.toNatClampNeg))) := by
  obtain ⟨hv, h1, hs⟩ := hp
  obtain ⟨a, ha, rfl⟩ := inB_p h1
  have hE := envA_ok hf hs
  rw [ix_nI (by omega)]
  refine sg_X8_goFrom_0 hf (lp_X8_goA hf hv (a := a) (fun ν ho hvn h5 => ?_) (aN α) 0 μ (by omega) (onlyM.rf _ _ _) hv (fun h hh => absurd hh (Nat.not_lt_zero h)))
  have hb := lp_X8_goB (G := G) hf (K := gfK α μ x2 a) (set := x2) ha ν ?_ 7 0 rfl
  · have e0 : put4 101 ν (fun r k => if k < 0 then initS 2000000000 (-1) 7 (get4 101 ν) r k else get4 101 ν r k) = ν := put4_get4
    rw [e0] at hb
    exact hb
  · have hg4 : eq4 (get4 101 (put4 101 ν (initS 2000000000 (-1) a (get4 101 ν)))) (initS 2000000000 (-1) a (get4 101 ν)) := eq4.gp
    refine lp_X8_goC hf hs 7 0 _ rfl (hvn.only hf.1 (onlyM.put4 _ _) (by omega) (by omega)) (ho.tr ((onlyM.put4 _ _).wide (by omega) (by omega))) (fun h hh => by rw [put4_out (by omega)]; exact h5 h hh) ?_ ?_
    · have hp := pkOK_init hE ha hf.1.1.2 (get4 101 (put4 101 ν (initS 2000000000 (-1) a (get4 101 ν))))
      have pk : ∀ f (σ τ : Mem), eq7 σ τ → pkOK (goA α) (tmA α) (wA α) (aN α) x2 f τ → pkOK (goA α) (tmA α) (wA α) (aN α) x2 f σ := by
        intro f
        induction f with
        | zero => intro σ τ _ _; exact True.intro
        | succ f ih =>
          intro σ τ h4 ⟨⟨p, hp7, e⟩, h2⟩
          refine ⟨⟨p, hp7, by rw [h4.pick 7 (Nat.le_refl 7)]; exact e⟩, ?_⟩
          rw [h4.pick 7 (Nat.le_refl 7), e, ix_nI (by omega)]
          rw [e, ix_nI (by omega)] at h2
          exact ih _ _ (h4.leave hf.1.1.2 hE.1 hp7) h2
      exact pk 7 _ _ (hg4.to7.tr (eq7.init _ _ _ _ _)) hp
    · exact eq7.full hf.1.1.2 hE.1 7 (hg4.to7.tr (eq7.init _ _ _ _ _))
theorem sg_X8_soonTo_0 {G : GW} {K : Option Value → Mem → Prop} {μ : Mem} {α : Mem} (hf : WF α) {x1 x2 x3 : Int32}  (h : (VM α μ ∧ inB x1 0 6 = true ∧ setOK (aN α) x3) ∧ ∀ μ3 : Mem, (onlyM 99 105 μ μ3 ∧ eq7 (get4 101 μ3) (refS α x3 x1.toNatClampNeg)) → (vp_in x2 7) ∧ K (some (.int (μ3 101 x2.toNatClampNeg))) μ3) : Ev2 G mX8_soonTo 5 0 [(0, .ref 82), (1, .int x1), (2, .int x2), (3, .int x3)] [] μ K := by
  refine ev_aload_n dX8_soonTo_0 0 rfl (by decide) ?_
  refine ev_iload_n dX8_soonTo_1 1 rfl ?_
  refine ev_iload_n dX8_soonTo_2 3 rfl ?_
  have p1 := h.1
  have h2 := h.2
  refine e2_callVrv (Rl := fun μ3 => onlyM 99 105 μ μ3 ∧ eq7 (get4 101 μ3) (refS α x3 x1.toNatClampNeg)) (a := 82) (as := [.int x1, .int x3]) (st := []) ok_X8_goFrom vi_X8_goFrom ml_8_256 hcl_8 kd_82 dX8_soonTo_3 rfl rfl (Nat.le_of_ble_eq_true rfl) (Nat.le_of_ble_eq_true rfl) (by decide) (ct_X8_goFrom hf (x1) (x3) μ p1) (fun μ3 r4 => ?_)
  have h5 := h2 μ3 r4
  refine ev_aload_n dX8_soonTo_6 0 rfl (by decide) ?_
  refine ev_getR' fl_8_201 rfl kd_82 rf_82_32 dX8_soonTo_7 ?_
  refine ev_iload_n dX8_soonTo_10 2 rfl ?_
  have p6 := h5.1
  have h7 := h5.2
  refine ev_iaload' (v := (μ3 101 x2.toNatClampNeg)) kd_101 ln_101 p6 rfl dX8_soonTo_11 ?_
  exact ev_ireturn dX8_soonTo_12 rfl True.intro rfl rfl ⟨rfl, h7⟩
theorem ct_X8_soonTo {G : GW} {α : Mem} (hf : WF α) (x1 x2 x3 : Int32) (μ : Mem) (hp : VM α μ ∧ inB x1 0 6 = true ∧ inB x2 0 6 = true ∧ setOK (aN α) x3) : Ev2 G mX8_soonTo 5 0 [(0, .ref 82), (1, .int x1), (2, .int x2), (3, .int x3)] [] μ (fun v μ' => ∃ x, v = some (.int x) ∧ (x = soonA α x3 x1.toNatClampNeg x2.toNatClampNeg ∧ onlyM 99 105 μ μ')) := by
  obtain ⟨hv, h1, h2, hs⟩ := hp
  refine sg_X8_soonTo_0 hf ⟨⟨hv, h1, hs⟩, fun ν hν => ?_⟩
  obtain ⟨a, ha, rfl⟩ := inB_p h1
  obtain ⟨b, hb, rfl⟩ := inB_p h2
  rw [ix_nI (by omega)] at hν ⊢
  rw [ix_nI (by omega)]
  exact ⟨vp_nI hb (by omega), _, rfl, (hν.2 0 (by omega) b hb).trans (soon_ref hf hs ha hb).symm, hν.1⟩
theorem sg_X8_ridden_0 {G : GW} {K : Option Value → Mem → Prop} {μ : Mem} {α : Mem} (hf : WF α) {x1 : Int32}  (h : Ev2 G mX8_ridden 6 4 [(0, .ref 82), (1, .int x1), (2, .int 0), (3, .int 0)] [] μ K) : Ev2 G mX8_ridden 6 0 [(0, .ref 82), (1, .int x1)] [] μ K := by
  refine ev_iconst (v := 0) dX8_ridden_0 rfl ?_
  refine ev_istore_n (lv' := [(0, .ref 82), (1, .int x1), (2, .int 0)]) dX8_ridden_1 (by decide) [1, 2, 0] rfl ?_
  refine ev_iconst (v := 0) dX8_ridden_2 rfl ?_
  refine ev_istore_n (lv' := [(0, .ref 82), (1, .int x1), (2, .int 0), (3, .int 0)]) dX8_ridden_3 (by decide) [1, 2, 3, 0] rfl ?_
  exact h
theorem sg_X8_ridden_4 {G : GW} {K : Option Value → Mem → Prop} {μ : Mem} {α : Mem} (hf : WF α) {x1 x2 x3 : Int32}  (h : (((μ 82 1) ≤ x3) → K (some (.int x2)) μ) ∧ ((¬ ((μ 82 1) ≤ x3)) → (vp_in x3 4) ∧ (vp_in x3 4) ∧ (VM α μ ∧ inB (μ 84 x3.toNatClampNeg) 0 6 = true ∧ inB (μ 85 x3.toNatClampNeg) 0 6 = true ∧ setOK (aN α) x1) ∧ ∀ (z10 : Int32) (μ11 : Mem), (z10 = soonA α x1 (μ 84 x3.toNatClampNeg).toNatClampNeg (μ 85 x3.toNatClampNeg).toNatClampNeg ∧ onlyM 99 105 μ μ11) → Ev2 G mX8_ridden 6 4 [(0, .ref 82), (1, .int x1), (2, .int (x2 + z10)), (3, .int (x3 + 1))] [] μ11 K)) : Ev2 G mX8_ridden 6 4 [(0, .ref 82), (1, .int x1), (2, .int x2), (3, .int x3)] [] μ K := by
  refine ev_iload_n dX8_ridden_4 3 rfl ?_
  refine ev_aload_n dX8_ridden_5 0 rfl (by decide) ?_
  refine ev_getI' (v := (μ 82 1)) fl_8_11 rfl kd_82 rfl dX8_ridden_6 ?_
  refine ev_icmp_ge (tgt := 38) dX8_ridden_9 rfl (fun c1 => ?_) (fun c1 => ?_)
  · have h2 := h.1 c1
    refine ev_iload_n dX8_ridden_38 2 rfl ?_
    exact ev_ireturn dX8_ridden_39 rfl True.intro rfl rfl ⟨rfl, h2⟩
  · have h3 := h.2 c1
    refine ev_iload_n dX8_ridden_12 2 rfl ?_
    refine ev_aload_n dX8_ridden_13 0 rfl (by decide) ?_
    refine ev_aload_n dX8_ridden_14 0 rfl (by decide) ?_
    refine ev_getR' fl_8_26 rfl kd_82 rf_82_2 dX8_ridden_15 ?_
    refine ev_iload_n dX8_ridden_18 3 rfl ?_
    have p4 := h3.1
    have h5 := h3.2
    refine ev_iaload' (v := (μ 84 x3.toNatClampNeg)) kd_84 ln_84 p4 rfl dX8_ridden_19 ?_
    refine ev_aload_n dX8_ridden_20 0 rfl (by decide) ?_
    refine ev_getR' fl_8_29 rfl kd_82 rf_82_3 dX8_ridden_21 ?_
    refine ev_iload_n dX8_ridden_24 3 rfl ?_
    have p6 := h5.1
    have h7 := h5.2
    refine ev_iaload' (v := (μ 85 x3.toNatClampNeg)) kd_85 ln_85 p6 rfl dX8_ridden_25 ?_
    refine ev_iload_n dX8_ridden_26 1 rfl ?_
    have p8 := h7.1
    have h9 := h7.2
    refine e2_callVr (Rl := fun z10 μ11 => z10 = soonA α x1 (μ 84 x3.toNatClampNeg).toNatClampNeg (μ 85 x3.toNatClampNeg).toNatClampNeg ∧ onlyM 99 105 μ μ11) (a := 82) (as := [.int (μ 84 x3.toNatClampNeg), .int (μ 85 x3.toNatClampNeg), .int x1]) (st := [.int x2]) ok_X8_soonTo vi_X8_soonTo ml_8_272 hcl_8 kd_82 dX8_ridden_27 rfl rfl (Nat.le_of_ble_eq_true rfl) (Nat.le_of_ble_eq_true rfl) (by decide) (ct_X8_soonTo hf ((μ 84 x3.toNatClampNeg)) ((μ 85 x3.toNatClampNeg)) (x1) μ p8) (fun z10 μ11 r12 => ?_)
    have h13 := h9 z10 μ11 r12
    refine ev_iadd dX8_ridden_30 ?_
    refine ev_istore_n (lv' := [(0, .ref 82), (1, .int x1), (2, .int (x2 + z10)), (3, .int x3)]) dX8_ridden_31 (by decide) [1, 2, 0, 3] rfl ?_
    refine ev_iinc (v := (x3 + 1)) (lv' := [(0, .ref 82), (1, .int x1), (2, .int (x2 + z10)), (3, .int (x3 + 1))]) dX8_ridden_32 3 rfl rfl (by decide) [1, 2, 3, 0] rfl ?_
    refine ev_goto (tgt := 4) dX8_ridden_35 rfl ?_
    exact h13
theorem ridV_s (sv : Nat → Nat → Int32) (f t : Nat → Nat) (r : Nat) : ridV sv f t (r + 1) = ridV sv f t r + sv (f r) (t r) := rfl
theorem lp_X8_ridden {G : GW} {α : Mem} (hf : WF α) {set : Int32} (hs : setOK (aN α) set) {μ : Mem} : ∀ j i (ν : Mem), i + j = aR α → VM α ν → onlyM 99 105 μ ν → Ev2 G mX8_ridden 6 4 [(0, .ref 82), (1, .int set), (2, .int (ridV (soonA α set) (fun r => (α 2 r).toNatClampNeg) (fun r => (α 3 r).toNatClampNeg) i)), (3, .int (nI i))] [] ν (fun v μ' => ∃ x, v = some (.int x) ∧ (x = ridA α set ∧ onlyM 99 105 μ μ')) := by
  have hR := hf.1.2.1.2
  intro j
  induction j with
  | zero =>
    intro i ν hi hv ho
    obtain rfl : i = aR α := by omega
    refine sg_X8_ridden_4 hf ⟨fun _ => ⟨_, rfl, rfl, ho⟩, fun c => ?_⟩
    rw [hv.1.2.1, hf.1.2.1.1] at c
    exact absurd (nI_le (Nat.le_refl _) (by omega)) c
  | succ j ih =>
    intro i ν hi hv ho
    obtain ⟨r1, r2⟩ := hv.2.2.1 i (by omega)
    obtain ⟨⟨p, hp, ep⟩, q, hq, eq⟩ := hf.2.2.1 i (by omega)
    refine sg_X8_ridden_4 hf ⟨fun c => ?_, fun _ => ⟨vp_nI (by omega) (by omega), vp_nI (by omega) (by omega), ?_, fun x ν2 hx => ?_⟩⟩
    · rw [hv.1.2.1, hf.1.2.1.1] at c
      exact absurd c (nI_ge (by omega) (by omega))
    · rw [ix_nI (by omega), r1, r2, ep, eq]
      exact ⟨hv, inB_7 hp, inB_7 hq, hs⟩
    · rw [ix_nI (by omega), r1, r2] at hx
      have h := ih (i + 1) ν2 (by omega) (hv.only hf.1 hx.2 (by omega) (by omega)) (ho.tr hx.2)
      rw [ridV_s, ← nI_1] at h
      rw [hx.1]
      exact h
theorem ct_X8_ridden {G : GW} {α : Mem} (hf : WF α) (x1 : Int32) (μ : Mem) (hp : VM α μ ∧ setOK (aN α) x1) : Ev2 G mX8_ridden 6 0 [(0, .ref 82), (1, .int x1)] [] μ (fun v μ' => ∃ x, v = some (.int x) ∧ (x = ridA α x1 ∧ onlyM 99 105 μ μ')) := sg_X8_ridden_0 hf (lp_X8_ridden hf hp.2 (aR α) 0 μ (by omega) hp.1 (onlyM.rf _ _ _))
