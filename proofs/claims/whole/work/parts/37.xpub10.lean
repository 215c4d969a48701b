/-! ===== the class's public methods: copy, judge, horsesBy ===== -/
def cpA (α : Mem) (s i o j n : Nat) : Mem := fun r k => if r = 16 ∧ 40 * o + j ≤ k ∧ k < 40 * o + j + n then α 16 (40 * s + i + (k - (40 * o + j))) else α r k
def sp_copy (α : Mem) (s i o j n : Int32) : Int32 := if inB s 0 3 = true then (if inB o 0 3 = true then (if α 14 s.toNatClampNeg = -1 then -11 else if α 14 o.toNatClampNeg = -1 then -11 else if α 14 s.toNatClampNeg = α 14 o.toNatClampNeg then (if holdsB (α 15 s.toNatClampNeg) i n = true then (if holdsB (α 15 o.toNatClampNeg) j n = true then n else -12) else -12) else -13) else -2) else -2
def sq_copy (α : Mem) (s i o j n : Int32) : Mem := if inB s 0 3 = true ∧ inB o 0 3 = true ∧ ¬ α 14 s.toNatClampNeg = -1 ∧ ¬ α 14 o.toNatClampNeg = -1 ∧ α 14 s.toNatClampNeg = α 14 o.toNatClampNeg ∧ holdsB (α 15 s.toNatClampNeg) i n = true ∧ holdsB (α 15 o.toNatClampNeg) j n = true then cpA α s.toNatClampNeg i.toNatClampNeg o.toNatClampNeg j.toNatClampNeg n.toNatClampNeg else α
theorem cpA_row {α : Mem} {s i o j n r : Nat} (h : r ≠ 16) : cpA α s i o j n r = α r := by
  funext k
  unfold cpA
  rw [if_neg (by omega)]
theorem wf_copy {α : Mem} (hf : WF α) (s i o j n : Int32) : WF (sq_copy α s i o j n) := by
  unfold sq_copy
  split
  · exact wf_sh (s := 0) hf (fun r hr => cpA_row (by omega)) (by rw [cpA_row (by omega), cpA_row (by omega)]; exact hf.2.2.2.2.2.2.2 0 (by omega)) (fun t _ _ => by rw [cpA_row (by omega), cpA_row (by omega)]; exact ⟨rfl, rfl⟩)
  · exact hf
theorem holdsB_t {z : Nat} {i n : Int32} (hz : z ≤ 40) (h : holdsB (nI z) i n = true) : ∃ a b, a + b ≤ z ∧ i = nI a ∧ n = nI b := by
  simp only [holdsB, Bool.and_eq_true, decide_eq_true_eq] at h
  obtain ⟨h1, h2, h3, h4⟩ := h
  have e0 : (0 : Int32).toInt = 0 := by decide
  rw [i_le] at h1 h2 h3 h4
  rw [e0] at h1 h2
  rw [nI_toInt (by omega)] at h3
  rw [i_sub (by rw [nI_toInt (by omega)]; omega), nI_toInt (by omega)] at h4
  refine ⟨i.toInt.toNat, n.toInt.toNat, by omega, ?_, ?_⟩
  · rw [i_eq, nI_toInt (by omega)]; omega
  · rw [i_eq, nI_toInt (by omega)]; omega
theorem vx_cp {α μ : Mem} (hf : WF α) (h : VX α μ) {s i o j n : Nat} (hs : s < 4) (ho : o < 4) (hi : i + n ≤ 40) (hj : j + n ≤ 40) : VX (cpA α s i o j n) (mcpy μ (75 + 2 * s) (75 + 2 * o) i j n) ∧ keepM μ (mcpy μ (75 + 2 * s) (75 + 2 * o) i j n) := by
  obtain ⟨e1, e2, e3⟩ := h.1.2.2.2.2.2.2.1 o ho
  obtain ⟨d1, d2, d3⟩ := h.1.2.2.2.2.2.2.1 s hs
  have nm : ∀ a, a ≠ 75 + 2 * o → mcpy μ (75 + 2 * s) (75 + 2 * o) i j n a = μ a := fun a ha => by
    funext k
    unfold mcpy
    rw [if_neg ha]
  refine vx_sh hf h ho (fun r hr => cpA_row (by omega)) (fun a ha => nm a ha.2) ?_ (fun t ht hto => ⟨by rw [cpA_row (by omega)], by rw [cpA_row (by omega)], fun k hk => ?_⟩)
  · rw [nm _ (by omega), cpA_row (by omega), cpA_row (by omega)]
    refine ⟨e1, e2, fun k hk => ?_⟩
    unfold mcpy cpA va_cpy
    rw [if_pos rfl]
    by_cases c : j ≤ k ∧ k < j + n
    · rw [if_pos c, if_pos (by omega), d3 _ (by omega)]
      congr 1
      omega
    · rw [if_neg c, if_neg (by omega)]
      exact e3 k hk
  · unfold cpA
    rw [if_neg (by omega)]
theorem sg_X7_copy_0 {G : GW} {K : Option Value → Mem → Prop} {μ : Mem} {x1 x2 x3 x4 x5 : Int32}  (h : (((inB x1 0 3) = false) → K (some (.int (-2))) μ) ∧ (((inB x1 0 3) = true) → (((inB x3 0 3) = true) → (vp_in x1 4) ∧ (vp_in x3 4) ∧ (((decide (μ (74 + 2 * x1.toNatClampNeg) 1 = -1)) = true) → K (some (.int (-11))) μ) ∧ (((decide (μ (74 + 2 * x1.toNatClampNeg) 1 = -1)) = false) → (((decide (μ (74 + 2 * x3.toNatClampNeg) 1 = -1)) = false) → (((μ (74 + 2 * x1.toNatClampNeg) 1) = (μ (74 + 2 * x3.toNatClampNeg) 1)) → (((holdsB (μ (74 + 2 * x1.toNatClampNeg) 2) x2 x5) = false) → K (some (.int (-12))) μ) ∧ (((holdsB (μ (74 + 2 * x1.toNatClampNeg) 2) x2 x5) = true) → (((holdsB (μ (74 + 2 * x3.toNatClampNeg) 2) x4 x5) = true) → (¬ x2 < 0 ∧ ¬ x4 < 0 ∧ ¬ x5 < 0 ∧ x2.toNatClampNeg + x5.toNatClampNeg ≤ 40 ∧ x4.toNatClampNeg + x5.toNatClampNeg ≤ 40) ∧ K (some (.int x5)) (mcpy μ ((74 + 2 * x1.toNatClampNeg) + 1) ((74 + 2 * x3.toNatClampNeg) + 1) x2.toNatClampNeg x4.toNatClampNeg x5.toNatClampNeg)) ∧ (((holdsB (μ (74 + 2 * x3.toNatClampNeg) 2) x4 x5) = false) → K (some (.int (-12))) μ))) ∧ ((¬ ((μ (74 + 2 * x1.toNatClampNeg) 1) = (μ (74 + 2 * x3.toNatClampNeg) 1))) → K (some (.int (-13))) μ)) ∧ (((decide (μ (74 + 2 * x3.toNatClampNeg) 1 = -1)) = true) → K (some (.int (-11))) μ))) ∧ (((inB x3 0 3) = false) → K (some (.int (-2))) μ))) : Ev2 G mX7_copy 3 0 [(0, .ref 10), (1, .int x1), (2, .int x2), (3, .int x3), (4, .int x4), (5, .int x5)] [] μ K := by
  refine ev_iload_n dX7_copy_0 1 rfl ?_
  refine e2_callS (w := .int (bi (inB x1 0 3))) (μ1 := μ) (as := [.int x1]) (st := []) ok_X7_isSheet sv_X7_isSheet ml_7_229 dX7_copy_1 rfl rfl (Nat.le_of_ble_eq_true rfl) (Nat.le_of_ble_eq_true rfl) (by decide) (ct_X7_isSheet (x1) μ) ?_
  refine ev_ifeq_bi (tgt := 14) dX7_copy_4 rfl (fun c1 => ?_) (fun c1 => ?_)
  · have h2 := h.1 c1
    refine ev_bipush (v := (-2)) dX7_copy_14 rfl ?_
    exact ev_ireturn dX7_copy_16 rfl True.intro rfl rfl ⟨rfl, h2⟩
  · have h3 := h.2 c1
    refine ev_iload_n dX7_copy_7 3 rfl ?_
    refine e2_callS (w := .int (bi (inB x3 0 3))) (μ1 := μ) (as := [.int x3]) (st := []) ok_X7_isSheet sv_X7_isSheet ml_7_229 dX7_copy_8 rfl rfl (Nat.le_of_ble_eq_true rfl) (Nat.le_of_ble_eq_true rfl) (by decide) (ct_X7_isSheet (x3) μ) ?_
    refine ev_ifne_bi (tgt := 17) dX7_copy_11 rfl (fun c4 => ?_) (fun c4 => ?_)
    · have h5 := h3.1 c4
      refine ev_aload_n dX7_copy_17 0 rfl (by decide) ?_
      refine ev_getR' fl_7_56 rfl kd_10 rf_10_8 dX7_copy_18 ?_
      refine ev_iload_n dX7_copy_21 1 rfl ?_
      have p7 := h5.1
      have h8 := h5.2
      refine ev_aaload' (k := 7) kd_42 (by omega) ln_42 p7 (raS p7) dX7_copy_22 ?_
      refine ev_astore (lv' := [(0, .ref 10), (1, .int x1), (2, .int x2), (3, .int x3), (4, .int x4), (5, .int x5), (6, .ref (74 + 2 * x1.toNatClampNeg))]) dX7_copy_23 (nzSh (isS p7)) (by decide) [1, 2, 3, 4, 5, 6, 0] rfl ?_
      refine ev_aload_n dX7_copy_25 0 rfl (by decide) ?_
      refine ev_getR' fl_7_56 rfl kd_10 rf_10_8 dX7_copy_26 ?_
      refine ev_iload_n dX7_copy_29 3 rfl ?_
      have p9 := h8.1
      have h10 := h8.2
      refine ev_aaload' (k := 7) kd_42 (by omega) ln_42 p9 (raS p9) dX7_copy_30 ?_
      refine ev_astore (lv' := [(0, .ref 10), (1, .int x1), (2, .int x2), (3, .int x3), (4, .int x4), (5, .int x5), (6, .ref (74 + 2 * x1.toNatClampNeg)), (7, .ref (74 + 2 * x3.toNatClampNeg))]) dX7_copy_31 (nzSh (isS p9)) (by decide) [1, 2, 3, 4, 5, 6, 7, 0] rfl ?_
      refine ev_aload dX7_copy_33 6 rfl (nzSh (isS p7)) ?_
      refine e2_callV (w := .int (bi (decide (μ (74 + 2 * x1.toNatClampNeg) 1 = -1)))) (μ1 := μ) (a := (74 + 2 * x1.toNatClampNeg)) (as := []) (st := []) ok_X4_isMissing vi_X4_isMissing ml_7_232 hcl_4 (kdSh (isS p7)) dX7_copy_35 rfl rfl (Nat.le_of_ble_eq_true rfl) (Nat.le_of_ble_eq_true rfl) (by decide) (ct_X4_isMissing (74 + 2 * x1.toNatClampNeg) (isS p7) μ) ?_
      refine ev_ifne_bi (tgt := 49) dX7_copy_38 rfl (fun c11 => ?_) (fun c11 => ?_)
      · have h12 := h10.1 c11
        refine ev_bipush (v := (-11)) dX7_copy_49 rfl ?_
        exact ev_ireturn dX7_copy_51 rfl True.intro rfl rfl ⟨rfl, h12⟩
      · have h13 := h10.2 c11
        refine ev_aload dX7_copy_41 7 rfl (nzSh (isS p9)) ?_
        refine e2_callV (w := .int (bi (decide (μ (74 + 2 * x3.toNatClampNeg) 1 = -1)))) (μ1 := μ) (a := (74 + 2 * x3.toNatClampNeg)) (as := []) (st := []) ok_X4_isMissing vi_X4_isMissing ml_7_232 hcl_4 (kdSh (isS p9)) dX7_copy_43 rfl rfl (Nat.le_of_ble_eq_true rfl) (Nat.le_of_ble_eq_true rfl) (by decide) (ct_X4_isMissing (74 + 2 * x3.toNatClampNeg) (isS p9) μ) ?_
        refine ev_ifeq_bi (tgt := 52) dX7_copy_46 rfl (fun c14 => ?_) (fun c14 => ?_)
        · have h15 := h13.1 c14
          refine ev_aload dX7_copy_52 6 rfl (nzSh (isS p7)) ?_
          refine ev_getI' (v := (μ (74 + 2 * x1.toNatClampNeg) 1)) fl_7_286 rfl (kdSh (isS p7)) rfl dX7_copy_54 ?_
          refine ev_aload dX7_copy_57 7 rfl (nzSh (isS p9)) ?_
          refine ev_getI' (v := (μ (74 + 2 * x3.toNatClampNeg) 1)) fl_7_286 rfl (kdSh (isS p9)) rfl dX7_copy_59 ?_
          refine ev_icmp_eq (tgt := 68) dX7_copy_62 rfl (fun c17 => ?_) (fun c17 => ?_)
          · have h18 := h15.1 c17
            refine ev_aload dX7_copy_68 6 rfl (nzSh (isS p7)) ?_
            refine ev_iload_n dX7_copy_70 2 rfl ?_
            refine ev_iload dX7_copy_71 5 rfl ?_
            refine e2_callV (w := .int (bi (holdsB (μ (74 + 2 * x1.toNatClampNeg) 2) x2 x5))) (μ1 := μ) (a := (74 + 2 * x1.toNatClampNeg)) (as := [.int x2, .int x5]) (st := []) ok_X4_holds vi_X4_holds ml_7_283 hcl_4 (kdSh (isS p7)) dX7_copy_73 rfl rfl (Nat.le_of_ble_eq_true rfl) (Nat.le_of_ble_eq_true rfl) (by decide) (ct_X4_holds (74 + 2 * x1.toNatClampNeg) (isS p7) (x2) (x5) μ) ?_
            refine ev_ifeq_bi (tgt := 91) dX7_copy_76 rfl (fun c20 => ?_) (fun c20 => ?_)
            · have h21 := h18.1 c20
              refine ev_bipush (v := (-12)) dX7_copy_91 rfl ?_
              exact ev_ireturn dX7_copy_93 rfl True.intro rfl rfl ⟨rfl, h21⟩
            · have h22 := h18.2 c20
              refine ev_aload dX7_copy_79 7 rfl (nzSh (isS p9)) ?_
              refine ev_iload dX7_copy_81 4 rfl ?_
              refine ev_iload dX7_copy_83 5 rfl ?_
              refine e2_callV (w := .int (bi (holdsB (μ (74 + 2 * x3.toNatClampNeg) 2) x4 x5))) (μ1 := μ) (a := (74 + 2 * x3.toNatClampNeg)) (as := [.int x4, .int x5]) (st := []) ok_X4_holds vi_X4_holds ml_7_283 hcl_4 (kdSh (isS p9)) dX7_copy_85 rfl rfl (Nat.le_of_ble_eq_true rfl) (Nat.le_of_ble_eq_true rfl) (by decide) (ct_X4_holds (74 + 2 * x3.toNatClampNeg) (isS p9) (x4) (x5) μ) ?_
              refine ev_ifne_bi (tgt := 94) dX7_copy_88 rfl (fun c23 => ?_) (fun c23 => ?_)
              · have h24 := h22.1 c23
                refine ev_aload dX7_copy_94 6 rfl (nzSh (isS p7)) ?_
                refine ev_getR' fl_7_289 rfl (kdSh (isS p7)) (rfSh0 (isS p7)) dX7_copy_96 ?_
                refine ev_iload_n dX7_copy_99 2 rfl ?_
                refine ev_aload dX7_copy_100 7 rfl (nzSh (isS p9)) ?_
                refine ev_getR' fl_7_289 rfl (kdSh (isS p9)) (rfSh0 (isS p9)) dX7_copy_102 ?_
                refine ev_iload dX7_copy_105 4 rfl ?_
                refine ev_iload dX7_copy_107 5 rfl ?_
                have p26 := h24.1
                have h27 := h24.2
                refine ev_arraycopy ml_7_292 (kdSh0 (isS p7)) (kdSh0 (isS p9)) p26.1 p26.2.1 p26.2.2.1 (by rw [show S0.2.2.2.1 ((74 + 2 * x1.toNatClampNeg) + 1) = _ from (lnSh0 (isS p7))]; exact p26.2.2.2.1) (by rw [show S0.2.2.2.1 ((74 + 2 * x3.toNatClampNeg) + 1) = _ from (lnSh0 (isS p9))]; exact p26.2.2.2.2) dX7_copy_109 (Nat.le_of_ble_eq_true rfl) (by decide) ?_
                refine ev_iload dX7_copy_112 5 rfl ?_
                exact ev_ireturn dX7_copy_114 rfl True.intro rfl rfl ⟨rfl, h27⟩
              · have h25 := h22.2 c23
                refine ev_bipush (v := (-12)) dX7_copy_91 rfl ?_
                exact ev_ireturn dX7_copy_93 rfl True.intro rfl rfl ⟨rfl, h25⟩
          · have h19 := h15.2 c17
            refine ev_bipush (v := (-13)) dX7_copy_65 rfl ?_
            exact ev_ireturn dX7_copy_67 rfl True.intro rfl rfl ⟨rfl, h19⟩
        · have h16 := h13.2 c14
          refine ev_bipush (v := (-11)) dX7_copy_49 rfl ?_
          exact ev_ireturn dX7_copy_51 rfl True.intro rfl rfl ⟨rfl, h16⟩
    · have h6 := h3.2 c4
      refine ev_bipush (v := (-2)) dX7_copy_14 rfl ?_
      exact ev_ireturn dX7_copy_16 rfl True.intro rfl rfl ⟨rfl, h6⟩
theorem pb_X7_copy {G : GW} {α μ : Mem} (hf : WF α) (h : VX α μ) (x1 x2 x3 x4 x5 : Int32) : pubX G mX7_copy 3 [(0, .ref 10), (1, .int x1), (2, .int x2), (3, .int x3), (4, .int x4), (5, .int x5)] α μ (.int (sp_copy α x1 x2 x3 x4 x5)) (sq_copy α x1 x2 x3 x4 x5) := by
  have hk := keepM.rf μ
  refine sg_X7_copy_0 ⟨fun c => ?_, fun c => ⟨fun d => ?_, fun d => ?_⟩⟩
  · unfold sp_copy sq_copy
    rw [if_neg (by rw [c]; decide), if_neg (by rw [c]; simp)]
    exact ⟨rfl, h, hk⟩
  · obtain ⟨s, hs, rfl⟩ := inB_nI (m := 3) (by omega) c
    obtain ⟨o, ho, rfl⟩ := inB_nI (m := 3) (by omega) d
    unfold sp_copy sq_copy
    rw [if_pos c, if_pos d, ix_nI (i := s) (by omega), ix_nI (i := o) (by omega)]
    obtain ⟨-, e1, e2, -⟩ := sz_of hf h.1 (s := s) (by omega)
    obtain ⟨-, g1, g2, -⟩ := sz_of hf h.1 (s := o) (by omega)
    rw [e1, e2, g1, g2]
    refine ⟨vp4 c, vp4 d, fun k => ?_, fun k => ⟨fun l => ⟨fun m => ⟨fun p => ?_, fun p => ⟨fun q => ?_, fun q => ?_⟩⟩, fun m => ?_⟩, fun l => ?_⟩⟩
    · have k := of_decide_eq_true k
      rw [if_pos k, if_neg (fun q => q.2.2.1 k)]
      exact ⟨rfl, h, hk⟩
    · have k := of_decide_eq_false k
      have l := of_decide_eq_false l
      rw [if_neg k, if_neg l, if_pos m, if_neg (by rw [p]; decide), if_neg (fun q => by rw [p] at q; exact absurd q.2.2.2.2.2.1 (by decide))]
      exact ⟨rfl, h, hk⟩
    · have k := of_decide_eq_false k
      have l := of_decide_eq_false l
      rw [if_neg k, if_neg l, if_pos m, if_pos p, if_pos q, if_pos ⟨c, d, k, l, m, p, q⟩]
      obtain ⟨-, z, hz, ez⟩ := hf.2.2.2.2.2.2.2 s (by omega)
      obtain ⟨-, y, hy, ey⟩ := hf.2.2.2.2.2.2.2 o (by omega)
      rw [ez] at p
      rw [ey] at q
      obtain ⟨a, b, hab, rfl, rfl⟩ := holdsB_t hz p
      obtain ⟨a', b', hab', rfl, eb⟩ := holdsB_t hy q
      have eb : b = b' := (nI_eq (by omega) (by omega)).mp eb
      subst eb
      rw [ix_nI (by omega), ix_nI (by omega), ix_nI (by omega)]
      refine ⟨⟨Int32.not_lt.mpr (nI_pos' (by omega)), Int32.not_lt.mpr (nI_pos' (by omega)), Int32.not_lt.mpr (nI_pos' (by omega)), by omega, by omega⟩, rfl, ?_⟩
      rw [show 74 + 2 * s + 1 = 75 + 2 * s by omega, show 74 + 2 * o + 1 = 75 + 2 * o by omega]
      exact vx_cp hf h (by omega) (by omega) (by omega) (by omega)
    · have k := of_decide_eq_false k
      have l := of_decide_eq_false l
      rw [if_neg k, if_neg l, if_pos m, if_pos p, if_neg (by rw [q]; decide), if_neg (fun q' => by rw [q] at q'; exact absurd q'.2.2.2.2.2.2 (by decide))]
      exact ⟨rfl, h, hk⟩
    · have k := of_decide_eq_false k
      have l := of_decide_eq_false l
      rw [if_neg k, if_neg l, if_neg m, if_neg (fun q => m q.2.2.2.2.1)]
      exact ⟨rfl, h, hk⟩
    · have k := of_decide_eq_false k
      have l := of_decide_eq_true l
      rw [if_neg k, if_pos l, if_neg (fun q => q.2.2.2.1 l)]
      exact ⟨rfl, h, hk⟩
  · unfold sp_copy sq_copy
    rw [if_pos c, if_neg (by rw [d]; decide), if_neg (fun q => by rw [d] at q; exact absurd q.2.1 (by decide))]
    exact ⟨rfl, h, hk⟩
/-! judge -/
def canA (α : Mem) (v p told : Int32) : Bool := decide (0 ≤ v) && (decide (v / 10 ≤ 7) && (inB (irem v 10) 0 6 && (!decide (irem v 10 = p) && (decide (v / 10 = 7) || (inB (v / 10) 0 (α 0 0 - 1) && (!bitB told (v / 10) && decide (goesF (α 4 (v / 10).toNatClampNeg) (α 5 (v / 10).toNatClampNeg) (α 6 (v / 10).toNatClampNeg) (α 8 (v / 10).toNatClampNeg) p = irem v 10)))))))
theorem can_shown {α μ : Mem} (hf : WF α) (h : VX0 α μ) (v p told : Int32) : canF μ v p told = canA α v p told := by
  unfold canF canA
  rw [h.1.1]
  by_cases c : inB (v / 10) 0 (α 0 0 - 1) = true
  · rw [goX_shown h (VX.vH hf h c).2.1]
  · have c' : inB (v / 10) 0 (α 0 0 - 1) = false := by simpa using c
    rw [c']
    rfl
def judA (α : Mem) (s : Nat) (what : Int32) : Nat → Nat → Int32 → Int32 → Int32 → Int32
  | 0, _, p, m, _ => sel3 what (-1) m p
  | j + 1, i, p, m, t => if canA α (α 16 (40 * s + i)) p t = true then (if α 16 (40 * s + i) / 10 = 7 then judA α s what j (i + 1) (irem (α 16 (40 * s + i)) 10) (m + α 1 (7 * p.toNatClampNeg + (irem (α 16 (40 * s + i)) 10).toNatClampNeg)) t else judA α s what j (i + 1) (irem (α 16 (40 * s + i)) 10) (tmA α (α 16 (40 * s + i) / 10).toNatClampNeg m) (t ||| (1 <<< ((α 16 (40 * s + i) / 10) &&& 31)))) else sel3 what (nI i) m p
theorem judA_succ (α : Mem) (s : Nat) (what : Int32) (j i : Nat) (p m t : Int32) : judA α s what (j + 1) i p m t = if canA α (α 16 (40 * s + i)) p t = true then (if α 16 (40 * s + i) / 10 = 7 then judA α s what j (i + 1) (irem (α 16 (40 * s + i)) 10) (m + α 1 (7 * p.toNatClampNeg + (irem (α 16 (40 * s + i)) 10).toNatClampNeg)) t else judA α s what j (i + 1) (irem (α 16 (40 * s + i)) 10) (tmA α (α 16 (40 * s + i) / 10).toNatClampNeg m) (t ||| (1 <<< ((α 16 (40 * s + i) / 10) &&& 31)))) else sel3 what (nI i) m p := by rw [judA]
def sp_judge (α : Mem) (s a what : Int32) : Int32 := if inB s 0 3 = true then (if α 14 s.toNatClampNeg = -1 then -11 else if inB a 0 6 = true then (if inB what 0 2 = true then judA α s.toNatClampNeg what (α 15 s.toNatClampNeg).toNatClampNeg 0 a 0 0 else -7) else -5) else -2
theorem canA_t {α : Mem} {v p t : Int32} (h : canA α v p t = true) : inB (irem v 10) 0 6 = true ∧ (v / 10 = 7 ∨ inB (v / 10) 0 (α 0 0 - 1) = true) := by
  simp only [canA, Bool.and_eq_true, Bool.or_eq_true, decide_eq_true_eq] at h
  obtain ⟨-, -, h3, -, h5⟩ := h
  exact ⟨h3, h5.imp id (fun q => q.1)⟩
theorem sg_X7_judge_0 {G : GW} {K : Option Value → Mem → Prop} {μ : Mem} {x1 x2 x3 : Int32}  (h : (((inB x1 0 3) = true) → (vp_in x1 4) ∧ (((decide (μ (74 + 2 * x1.toNatClampNeg) 1 = -1)) = false) → (((inB x2 0 6) = true) → (((inB x3 (0 : Int32) (2 : Int32)) = true) → Ev2 G mX7_judge 4 63 [(0, .ref 10), (3, .int x3), (4, .ref (74 + 2 * x1.toNatClampNeg)), (5, .int x2), (6, .int 0), (7, .int 0), (8, .int 0)] [] μ K) ∧ (((inB x3 (0 : Int32) (2 : Int32)) = false) → K (some (.int (-7))) μ)) ∧ (((inB x2 0 6) = false) → K (some (.int (-5))) μ)) ∧ (((decide (μ (74 + 2 * x1.toNatClampNeg) 1 = -1)) = true) → K (some (.int (-11))) μ)) ∧ (((inB x1 0 3) = false) → K (some (.int (-2))) μ)) : Ev2 G mX7_judge 4 0 [(0, .ref 10), (1, .int x1), (2, .int x2), (3, .int x3)] [] μ K := by
  refine ev_iload_n dX7_judge_0 1 rfl ?_
  refine e2_callS (w := .int (bi (inB x1 0 3))) (μ1 := μ) (as := [.int x1]) (st := []) ok_X7_isSheet sv_X7_isSheet ml_7_229 dX7_judge_1 rfl rfl (Nat.le_of_ble_eq_true rfl) (Nat.le_of_ble_eq_true rfl) (by decide) (ct_X7_isSheet (x1) μ) ?_
  refine ev_ifne_bi (tgt := 10) dX7_judge_4 rfl (fun c1 => ?_) (fun c1 => ?_)
  · have h2 := h.1 c1
    refine ev_aload_n dX7_judge_10 0 rfl (by decide) ?_
    refine ev_getR' fl_7_56 rfl kd_10 rf_10_8 dX7_judge_11 ?_
    refine ev_iload_n dX7_judge_14 1 rfl ?_
    have p4 := h2.1
    have h5 := h2.2
    refine ev_aaload' (k := 7) kd_42 (by omega) ln_42 p4 (raS p4) dX7_judge_15 ?_
    refine ev_astore (lv' := [(0, .ref 10), (1, .int x1), (2, .int x2), (3, .int x3), (4, .ref (74 + 2 * x1.toNatClampNeg))]) dX7_judge_16 (nzSh (isS p4)) (by decide) [1, 2, 3, 4, 0] rfl ?_
    refine ev_aload dX7_judge_18 4 rfl (nzSh (isS p4)) ?_
    refine e2_callV (w := .int (bi (decide (μ (74 + 2 * x1.toNatClampNeg) 1 = -1)))) (μ1 := μ) (a := (74 + 2 * x1.toNatClampNeg)) (as := []) (st := []) ok_X4_isMissing vi_X4_isMissing ml_7_232 hcl_4 (kdSh (isS p4)) dX7_judge_20 rfl rfl (Nat.le_of_ble_eq_true rfl) (Nat.le_of_ble_eq_true rfl) (by decide) (ct_X4_isMissing (74 + 2 * x1.toNatClampNeg) (isS p4) μ) ?_
    refine ev_ifeq_bi (tgt := 29) dX7_judge_23 rfl (fun c6 => ?_) (fun c6 => ?_)
    · have h7 := h5.1 c6
      refine ev_iload_n dX7_judge_29 2 rfl ?_
      refine e2_callS (w := .int (bi (inB x2 0 6))) (μ1 := μ) (as := [.int x2]) (st := []) ok_X7_isPlace sv_X7_isPlace ml_7_94 dX7_judge_30 rfl rfl (Nat.le_of_ble_eq_true rfl) (Nat.le_of_ble_eq_true rfl) (by decide) (ct_X7_isPlace (x2) μ) ?_
      refine ev_ifne_bi (tgt := 39) dX7_judge_33 rfl (fun c9 => ?_) (fun c9 => ?_)
      · have h10 := h7.1 c9
        refine ev_iload_n dX7_judge_39 3 rfl ?_
        refine ev_iconst (v := 0) dX7_judge_40 rfl ?_
        refine ev_iconst (v := 2) dX7_judge_41 rfl ?_
        refine e2_callS (w := .int (bi (inB x3 (0 : Int32) (2 : Int32)))) (μ1 := μ) (as := [.int x3, .int 0, .int 2]) (st := []) ok_X7_isWithin sv_X7_isWithin ml_7_86 dX7_judge_42 rfl rfl (Nat.le_of_ble_eq_true rfl) (Nat.le_of_ble_eq_true rfl) (by decide) (ct_X7_isWithin (x3) (0) (2) μ) ?_
        refine ev_ifne_bi (tgt := 51) dX7_judge_45 rfl (fun c12 => ?_) (fun c12 => ?_)
        · have h13 := h10.1 c12
          refine ev_iload_n dX7_judge_51 2 rfl ?_
          refine ev_istore (lv' := [(0, .ref 10), (1, .int x1), (2, .int x2), (3, .int x3), (4, .ref (74 + 2 * x1.toNatClampNeg)), (5, .int x2)]) dX7_judge_52 (by decide) [1, 2, 3, 4, 5, 0] rfl ?_
          refine ev_iconst (v := 0) dX7_judge_54 rfl ?_
          refine ev_istore (lv' := [(0, .ref 10), (1, .int x1), (2, .int x2), (3, .int x3), (4, .ref (74 + 2 * x1.toNatClampNeg)), (5, .int x2), (6, .int 0)]) dX7_judge_55 (by decide) [1, 2, 3, 4, 5, 6, 0] rfl ?_
          refine ev_iconst (v := 0) dX7_judge_57 rfl ?_
          refine ev_istore (lv' := [(0, .ref 10), (1, .int x1), (2, .int x2), (3, .int x3), (4, .ref (74 + 2 * x1.toNatClampNeg)), (5, .int x2), (6, .int 0), (7, .int 0)]) dX7_judge_58 (by decide) [1, 2, 3, 4, 5, 6, 7, 0] rfl ?_
          refine ev_iconst (v := 0) dX7_judge_60 rfl ?_
          refine ev_istore (lv' := [(0, .ref 10), (1, .int x1), (2, .int x2), (3, .int x3), (4, .ref (74 + 2 * x1.toNatClampNeg)), (5, .int x2), (6, .int 0), (7, .int 0), (8, .int 0)]) dX7_judge_61 (by decide) [1, 2, 3, 4, 5, 6, 7, 8, 0] rfl ?_
          refine EvW.less [0, 3, 4, 5, 6, 7, 8] (lv' := [(0, .ref 10), (3, .int x3), (4, .ref (74 + 2 * x1.toNatClampNeg)), (5, .int x2), (6, .int 0), (7, .int 0), (8, .int 0)]) rfl ?_
          exact h13
        · have h14 := h10.2 c12
          refine ev_bipush (v := (-7)) dX7_judge_48 rfl ?_
          exact ev_ireturn dX7_judge_50 rfl True.intro rfl rfl ⟨rfl, h14⟩
      · have h11 := h7.2 c9
        refine ev_bipush (v := (-5)) dX7_judge_36 rfl ?_
        exact ev_ireturn dX7_judge_38 rfl True.intro rfl rfl ⟨rfl, h11⟩
    · have h8 := h5.2 c6
      refine ev_bipush (v := (-11)) dX7_judge_26 rfl ?_
      exact ev_ireturn dX7_judge_28 rfl True.intro rfl rfl ⟨rfl, h8⟩
  · have h3 := h.2 c1
    refine ev_bipush (v := (-2)) dX7_judge_7 rfl ?_
    exact ev_ireturn dX7_judge_9 rfl True.intro rfl rfl ⟨rfl, h3⟩
theorem sg_X7_judge_63 {G : GW} {K : Option Value → Mem → Prop} {μ : Mem} {x3 x5 x6 x7 x8 : Int32} {r4 : Nat} (hr4 : isSh r4) (h : (((μ r4 2) ≤ x8) → ((¬ x3 = 0) → ((¬ x3 = 1) → K (some (.int x5)) μ) ∧ ((x3 = 1) → K (some (.int x6)) μ)) ∧ ((x3 = 0) → K (some (.int (-1))) μ)) ∧ ((¬ ((μ r4 2) ≤ x8)) → (szOK μ r4) ∧ (∃ n, n ≤ 7 ∧ μ 10 9 = nI n) ∧ (((canF μ (numF μ r4 x8) x5 x7) = true) → ∀ y17 : Int32, y17 = ((numF μ r4 x8) - (numF μ r4 x8) / 10 * 10) → ((¬ ((numF μ r4 x8) / 10) = 7) → (vp_in ((numF μ r4 x8) / 10) 7) ∧ ∀ y24 : Int32, y24 = (imax x6 (μ (43 + ((numF μ r4 x8) / 10).toNatClampNeg) 5) + outF (μ (43 + ((numF μ r4 x8) / 10).toNatClampNeg) 0) (μ (43 + ((numF μ r4 x8) / 10).toNatClampNeg) 4) (μ (43 + ((numF μ r4 x8) / 10).toNatClampNeg) 6)) → ∀ y26 : Int32, y26 = (x7 ||| ((1 : Int32) <<< (((numF μ r4 x8) / 10) &&& 31))) → Ev2 G mX7_judge 4 63 [(0, .ref 10), (3, .int x3), (4, .ref r4), (5, .int y17), (6, .int y24), (7, .int y26), (8, .int (x8 + 1))] [] μ K) ∧ ((((numF μ r4 x8) / 10) = 7) → (vp_in x5 7) ∧ (vp_in y17 7) ∧ ∀ y32 : Int32, y32 = (x6 + (μ (12 + x5.toNatClampNeg) y17.toNatClampNeg)) → Ev2 G mX7_judge 4 63 [(0, .ref 10), (3, .int x3), (4, .ref r4), (5, .int y17), (6, .int y32), (7, .int x7), (8, .int (x8 + 1))] [] μ K)) ∧ (((canF μ (numF μ r4 x8) x5 x7) = false) → ((¬ x3 = 0) → ((¬ x3 = 1) → K (some (.int x5)) μ) ∧ ((x3 = 1) → K (some (.int x6)) μ)) ∧ ((x3 = 0) → K (some (.int x8)) μ)))) : Ev2 G mX7_judge 4 63 [(0, .ref 10), (3, .int x3), (4, .ref r4), (5, .int x5), (6, .int x6), (7, .int x7), (8, .int x8)] [] μ K := by
  refine ev_iload dX7_judge_63 6 rfl ?_
  refine ev_aload dX7_judge_65 2 rfl (nzSh hr4) ?_
  refine ev_getI' (v := (μ r4 2)) fl_7_236 rfl (kdSh hr4) rfl dX7_judge_67 ?_
  refine ev_icmp_ge (tgt := 189) dX7_judge_70 rfl (fun c1 => ?_) (fun c1 => ?_)
  · have h2 := h.1 c1
    refine ev_iload_n dX7_judge_189 1 rfl ?_
    refine ev_if_ne (tgt := 197) dX7_judge_190 rfl (fun c4 => ?_) (fun c4 => ?_)
    · have h5 := h2.1 c4
      refine ev_iload_n dX7_judge_197 1 rfl ?_
      refine ev_iconst (v := 1) dX7_judge_198 rfl ?_
      refine ev_icmp_ne (tgt := 207) dX7_judge_199 rfl (fun c7 => ?_) (fun c7 => ?_)
      · have h8 := h5.1 c7
        refine ev_iload dX7_judge_207 3 rfl ?_
        exact ev_ireturn dX7_judge_209 rfl True.intro rfl rfl ⟨rfl, h8⟩
      · have h9 := h5.2 c7
        refine ev_iload dX7_judge_202 4 rfl ?_
        refine ev_goto (tgt := 209) dX7_judge_204 rfl ?_
        exact ev_ireturn dX7_judge_209 rfl True.intro rfl rfl ⟨rfl, h9⟩
    · have h6 := h2.2 c4
      refine ev_iconst (v := (-1)) dX7_judge_193 rfl ?_
      refine ev_goto (tgt := 209) dX7_judge_194 rfl ?_
      exact ev_ireturn dX7_judge_209 rfl True.intro rfl rfl ⟨rfl, h6⟩
  · have h3 := h.2 c1
    refine ev_aload dX7_judge_73 2 rfl (nzSh hr4) ?_
    refine ev_iload dX7_judge_75 6 rfl ?_
    have p10 := h3.1
    have h11 := h3.2
    refine e2_callV (w := .int (numF μ r4 x8)) (μ1 := μ) (a := r4) (as := [.int x8]) (st := []) ok_X4_numberAt vi_X4_numberAt ml_7_237 hcl_4 (kdSh hr4) dX7_judge_77 rfl rfl (Nat.le_of_ble_eq_true rfl) (Nat.le_of_ble_eq_true rfl) (by decide) (ct_X4_numberAt r4 hr4 (x8) μ p10) ?_
    refine ev_istore (lv' := [(0, .ref 10), (3, .int x3), (4, .ref r4), (5, .int x5), (6, .int x6), (7, .int x7), (8, .int x8), (9, .int (numF μ r4 x8))]) dX7_judge_80 (by decide) [1, 2, 3, 4, 5, 6, 7, 0] rfl ?_
    refine ev_aload_n dX7_judge_82 0 rfl (by decide) ?_
    refine ev_iload dX7_judge_83 7 rfl ?_
    refine ev_iload dX7_judge_85 3 rfl ?_
    refine ev_iload dX7_judge_87 5 rfl ?_
    have p12 := h11.1
    have h13 := h11.2
    refine e2_callV (w := .int (bi (canF μ (numF μ r4 x8) x5 x7))) (μ1 := μ) (a := 10) (as := [.int (numF μ r4 x8), .int x5, .int x7]) (st := []) ok_X7_canBe vi_X7_canBe ml_7_240 hcl_7 kd_10 dX7_judge_89 rfl rfl (Nat.le_of_ble_eq_true rfl) (Nat.le_of_ble_eq_true rfl) (by decide) (ct_X7_canBe ((numF μ r4 x8)) (x5) (x7) μ p12) ?_
    refine ev_ifne_bi (tgt := 117) dX7_judge_92 rfl (fun c14 => ?_) (fun c14 => ?_)
    · have h15 := h13.1 c14
      refine ev_iload dX7_judge_117 7 rfl ?_
      refine ev_bipush (v := 10) dX7_judge_119 rfl ?_
      refine ev_idiv dX7_judge_121 (by decide) ?_
      refine ev_istore (lv' := [(0, .ref 10), (3, .int x3), (4, .ref r4), (5, .int x5), (6, .int x6), (7, .int x7), (8, .int x8), (9, .int (numF μ r4 x8)), (10, .int ((numF μ r4 x8) / 10))]) dX7_judge_122 (by decide) [1, 2, 3, 4, 5, 6, 7, 8, 0] rfl ?_
      refine ev_iload dX7_judge_124 7 rfl ?_
      refine ev_bipush (v := 10) dX7_judge_126 rfl ?_
      refine ev_irem dX7_judge_128 (by decide) ?_
      refine ev_top (fun y17 ey17 => ?_)
      have h18 := h15 y17 ey17
      refine ev_istore (lv' := [(0, .ref 10), (3, .int x3), (4, .ref r4), (5, .int x5), (6, .int x6), (7, .int x7), (8, .int x8), (9, .int (numF μ r4 x8)), (10, .int ((numF μ r4 x8) / 10)), (11, .int y17)]) dX7_judge_129 (by decide) [1, 2, 3, 4, 5, 6, 7, 8, 9, 0] rfl ?_
      refine ev_iload dX7_judge_131 8 rfl ?_
      refine ev_bipush (v := 7) dX7_judge_133 rfl ?_
      refine ev_icmp_ne (tgt := 156) dX7_judge_135 rfl (fun c19 => ?_) (fun c19 => ?_)
      · have h20 := h18.1 c19
        refine ev_aload_n dX7_judge_156 0 rfl (by decide) ?_
        refine ev_getR' fl_7_16 rfl kd_10 rf_10_1 dX7_judge_157 ?_
        refine ev_iload dX7_judge_160 8 rfl ?_
        have p22 := h20.1
        have h23 := h20.2
        refine ev_aaload' (k := 5) kd_19 (by omega) ln_19 p22 (raH p22) dX7_judge_162 ?_
        refine ev_iload dX7_judge_163 4 rfl ?_
        refine e2_callV (w := .int (imax x6 (μ (43 + ((numF μ r4 x8) / 10).toNatClampNeg) 5) + outF (μ (43 + ((numF μ r4 x8) / 10).toNatClampNeg) 0) (μ (43 + ((numF μ r4 x8) / 10).toNatClampNeg) 4) (μ (43 + ((numF μ r4 x8) / 10).toNatClampNeg) 6))) (μ1 := μ) (a := (43 + ((numF μ r4 x8) / 10).toNatClampNeg)) (as := [.int x6]) (st := []) ok_X0_arrives vi_X0_arrives ml_7_243 hcl_0 (kdHo (isH p22)) dX7_judge_165 rfl rfl (Nat.le_of_ble_eq_true rfl) (Nat.le_of_ble_eq_true rfl) (by decide) (ct_X0_arrives (43 + ((numF μ r4 x8) / 10).toNatClampNeg) (isH p22) (x6) μ) ?_
        refine ev_top (fun y24 ey24 => ?_)
        have h25 := h23 y24 ey24
        refine ev_istore (lv' := [(0, .ref 10), (3, .int x3), (4, .ref r4), (5, .int x5), (6, .int y24), (7, .int x7), (8, .int x8), (9, .int (numF μ r4 x8)), (10, .int ((numF μ r4 x8) / 10)), (11, .int y17)]) dX7_judge_168 (by decide) [1, 2, 3, 4, 0, 5, 6, 7, 8, 9] rfl ?_
        refine ev_iload dX7_judge_170 5 rfl ?_
        refine ev_iconst (v := 1) dX7_judge_172 rfl ?_
        refine ev_iload dX7_judge_173 8 rfl ?_
        refine ev_ishl dX7_judge_175 ?_
        refine ev_ior dX7_judge_176 ?_
        refine ev_top (fun y26 ey26 => ?_)
        have h27 := h25 y26 ey26
        refine ev_istore (lv' := [(0, .ref 10), (3, .int x3), (4, .ref r4), (5, .int x5), (6, .int y24), (7, .int y26), (8, .int x8), (9, .int (numF μ r4 x8)), (10, .int ((numF μ r4 x8) / 10)), (11, .int y17)]) dX7_judge_177 (by decide) [1, 2, 3, 4, 5, 0, 6, 7, 8, 9] rfl ?_
        refine ev_iload dX7_judge_179 9 rfl ?_
        refine ev_istore (lv' := [(0, .ref 10), (3, .int x3), (4, .ref r4), (5, .int y17), (6, .int y24), (7, .int y26), (8, .int x8), (9, .int (numF μ r4 x8)), (10, .int ((numF μ r4 x8) / 10)), (11, .int y17)]) dX7_judge_181 (by decide) [1, 2, 3, 0, 4, 5, 6, 7, 8, 9] rfl ?_
        refine ev_iinc (v := (x8 + 1)) (lv' := [(0, .ref 10), (3, .int x3), (4, .ref r4), (5, .int y17), (6, .int y24), (7, .int y26), (8, .int (x8 + 1)), (9, .int (numF μ r4 x8)), (10, .int ((numF μ r4 x8) / 10)), (11, .int y17)]) dX7_judge_183 6 rfl rfl (by decide) [1, 2, 3, 4, 5, 6, 0, 7, 8, 9] rfl ?_
        refine ev_goto (tgt := 63) dX7_judge_186 rfl ?_
        refine EvW.less [0, 1, 2, 3, 4, 5, 6] (lv' := [(0, .ref 10), (3, .int x3), (4, .ref r4), (5, .int y17), (6, .int y24), (7, .int y26), (8, .int (x8 + 1))]) rfl ?_
        exact h27
      · have h21 := h18.2 c19
        refine ev_iload dX7_judge_138 4 rfl ?_
        refine ev_aload_n dX7_judge_140 0 rfl (by decide) ?_
        refine ev_getR' fl_7_11 rfl kd_10 rf_10_0 dX7_judge_141 ?_
        refine ev_iload dX7_judge_144 3 rfl ?_
        have p28 := h21.1
        have h29 := h21.2
        refine ev_aaload' (k := 4) kd_11 (by omega) ln_11 p28 (raW p28) dX7_judge_146 ?_
        refine ev_iload dX7_judge_147 9 rfl ?_
        have p30 := h29.1
        have h31 := h29.2
        refine ev_iaload' (v := (μ (12 + x5.toNatClampNeg) y17.toNatClampNeg)) (kdRw (isW p28)) (lnRw (isW p28)) p30 rfl dX7_judge_149 ?_
        refine ev_iadd dX7_judge_150 ?_
        refine ev_top (fun y32 ey32 => ?_)
        have h33 := h31 y32 ey32
        refine ev_istore (lv' := [(0, .ref 10), (3, .int x3), (4, .ref r4), (5, .int x5), (6, .int y32), (7, .int x7), (8, .int x8), (9, .int (numF μ r4 x8)), (10, .int ((numF μ r4 x8) / 10)), (11, .int y17)]) dX7_judge_151 (by decide) [1, 2, 3, 4, 0, 5, 6, 7, 8, 9] rfl ?_
        refine ev_goto (tgt := 179) dX7_judge_153 rfl ?_
        refine ev_iload dX7_judge_179 9 rfl ?_
        refine ev_istore (lv' := [(0, .ref 10), (3, .int x3), (4, .ref r4), (5, .int y17), (6, .int y32), (7, .int x7), (8, .int x8), (9, .int (numF μ r4 x8)), (10, .int ((numF μ r4 x8) / 10)), (11, .int y17)]) dX7_judge_181 (by decide) [1, 2, 3, 0, 4, 5, 6, 7, 8, 9] rfl ?_
        refine ev_iinc (v := (x8 + 1)) (lv' := [(0, .ref 10), (3, .int x3), (4, .ref r4), (5, .int y17), (6, .int y32), (7, .int x7), (8, .int (x8 + 1)), (9, .int (numF μ r4 x8)), (10, .int ((numF μ r4 x8) / 10)), (11, .int y17)]) dX7_judge_183 6 rfl rfl (by decide) [1, 2, 3, 4, 5, 6, 0, 7, 8, 9] rfl ?_
        refine ev_goto (tgt := 63) dX7_judge_186 rfl ?_
        refine EvW.less [0, 1, 2, 3, 4, 5, 6] (lv' := [(0, .ref 10), (3, .int x3), (4, .ref r4), (5, .int y17), (6, .int y32), (7, .int x7), (8, .int (x8 + 1))]) rfl ?_
        exact h33
    · have h16 := h13.2 c14
      refine ev_iload_n dX7_judge_95 1 rfl ?_
      refine ev_if_ne (tgt := 104) dX7_judge_96 rfl (fun c34 => ?_) (fun c34 => ?_)
      · have h35 := h16.1 c34
        refine ev_iload_n dX7_judge_104 1 rfl ?_
        refine ev_iconst (v := 1) dX7_judge_105 rfl ?_
        refine ev_icmp_ne (tgt := 114) dX7_judge_106 rfl (fun c37 => ?_) (fun c37 => ?_)
        · have h38 := h35.1 c37
          refine ev_iload dX7_judge_114 3 rfl ?_
          exact ev_ireturn dX7_judge_116 rfl True.intro rfl rfl ⟨rfl, h38⟩
        · have h39 := h35.2 c37
          refine ev_iload dX7_judge_109 4 rfl ?_
          refine ev_goto (tgt := 116) dX7_judge_111 rfl ?_
          exact ev_ireturn dX7_judge_116 rfl True.intro rfl rfl ⟨rfl, h39⟩
      · have h36 := h16.2 c34
        refine ev_iload dX7_judge_99 6 rfl ?_
        refine ev_goto (tgt := 116) dX7_judge_101 rfl ?_
        exact ev_ireturn dX7_judge_116 rfl True.intro rfl rfl ⟨rfl, h36⟩
theorem lp_X7_judge {G : GW} {α μ : Mem} (hf : WF α) (h : VX α μ) {s z : Nat} (hs : s < 4) (hz : z ≤ 40) (ez : α 15 s = nI z) {x3 : Int32} : ∀ j i (p m t : Int32), i + j = z → inB p 0 6 = true → Ev2 G mX7_judge 4 63 [(0, .ref 10), (3, .int x3), (4, .ref (74 + 2 * s)), (5, .int p), (6, .int m), (7, .int t), (8, .int (nI i))] [] μ (fun v μ' => v = some (.int (judA α s x3 j i p m t)) ∧ VX α μ' ∧ keepM μ μ') := by
  obtain ⟨zk, e1, e2, e3⟩ := sz_of hf h.1 hs
  have ho : isSh (74 + 2 * s) := ⟨s, hs, rfl⟩
  intro j
  induction j with
  | zero =>
    intro i p m t hi hp
    obtain rfl : i = z := by omega
    refine sg_X7_judge_63 ho ⟨fun _ => ⟨fun c => ⟨fun d => ⟨?_, h, keepM.rf μ⟩, fun d => ⟨?_, h, keepM.rf μ⟩⟩, fun c => ⟨?_, h, keepM.rf μ⟩⟩, fun c => ?_⟩
    · rw [judA, sel3_2 c d]
    · rw [judA, sel3_1 c d]
    · rw [judA, sel3_0 c]
    · rw [e2, ez] at c
      exact absurd (nI_le (Nat.le_refl _) (by omega)) c
  | succ j ih =>
    intro i p m t hi hp
    have en : numF μ (74 + 2 * s) (nI i) = α 16 (40 * s + i) := by
      rw [e3]
      unfold numA
      have hh : holdsB (nI z) (nI i) 1 = true := by
        have : ∀ z, z < 41 → ∀ i, i < z → holdsB (nI z) (nI i) 1 = true := by decide
        exact this z (by omega) i (by omega)
      rw [ez, if_pos hh, ix_nI (by omega)]
    refine sg_X7_judge_63 ho ⟨fun c => ?_, fun _ => ⟨zk, VX.n hf h.1, ?_⟩⟩
    · rw [e2, ez] at c
      exact absurd c (nI_ge (by omega) (by omega))
    · rw [en, can_shown hf h.1, judA_succ]
      refine ⟨fun c y hy => ?_, fun c => ⟨fun d => ⟨fun e => ⟨?_, h, keepM.rf μ⟩, fun e => ⟨?_, h, keepM.rf μ⟩⟩, fun d => ⟨?_, h, keepM.rf μ⟩⟩⟩
      · rw [if_pos c]
        have hy : y = irem (α 16 (40 * s + i)) 10 := hy
        subst hy
        obtain ⟨ht, hb⟩ := canA_t c
        refine ⟨fun d => ?_, fun d => ⟨vp7 hp, vp7 ht, fun y hy => ?_⟩⟩
        · rw [if_neg d]
          have hb := hb.resolve_left d
          obtain ⟨v, vi, -⟩ := VX.vH hf h.1 hb
          refine ⟨v, fun y hy y' hy' => ?_⟩
          have q : (α 16 (40 * s + i) / 10).toNatClampNeg < aN α := vi
          have f0 : μ (43 + (α 16 (40 * s + i) / 10).toNatClampNeg) 0 = α 4 ((α 16 (40 * s + i) / 10).toNatClampNeg) := h.1.2.2.2.1 _ q 0 (by omega)
          have f1 : μ (43 + (α 16 (40 * s + i) / 10).toNatClampNeg) 1 = α 5 ((α 16 (40 * s + i) / 10).toNatClampNeg) := h.1.2.2.2.1 _ q 1 (by omega)
          have f2 : μ (43 + (α 16 (40 * s + i) / 10).toNatClampNeg) 2 = α 6 ((α 16 (40 * s + i) / 10).toNatClampNeg) := h.1.2.2.2.1 _ q 2 (by omega)
          have f3 : μ (43 + (α 16 (40 * s + i) / 10).toNatClampNeg) 3 = α 7 ((α 16 (40 * s + i) / 10).toNatClampNeg) := h.1.2.2.2.1 _ q 3 (by omega)
          have f4 : μ (43 + (α 16 (40 * s + i) / 10).toNatClampNeg) 4 = α 8 ((α 16 (40 * s + i) / 10).toNatClampNeg) := h.1.2.2.2.1 _ q 4 (by omega)
          have f5 : μ (43 + (α 16 (40 * s + i) / 10).toNatClampNeg) 5 = α 9 ((α 16 (40 * s + i) / 10).toNatClampNeg) := h.1.2.2.2.1 _ q 5 (by omega)
          have f6 : μ (43 + (α 16 (40 * s + i) / 10).toNatClampNeg) 6 = saidA α 0 ((α 16 (40 * s + i) / 10).toNatClampNeg) := h.2 _ q 0 (by omega)
          have f7 : μ (43 + (α 16 (40 * s + i) / 10).toNatClampNeg) 7 = saidA α 1 ((α 16 (40 * s + i) / 10).toNatClampNeg) := h.2 _ q 1 (by omega)
          have f8 : μ (43 + (α 16 (40 * s + i) / 10).toNatClampNeg) 8 = saidA α 2 ((α 16 (40 * s + i) / 10).toNatClampNeg) := h.2 _ q 2 (by omega)
          rw [f0, f4, f5, f6] at hy
          have hy : y = tmA α (α 16 (40 * s + i) / 10).toNatClampNeg m := hy
          have hh := ih (i + 1) (irem (α 16 (40 * s + i)) 10) (tmA α (α 16 (40 * s + i) / 10).toNatClampNeg m) (t ||| (1 <<< ((α 16 (40 * s + i) / 10) &&& 31))) (by omega) ht
          rw [← nI_1] at hh
          rw [hy, hy']
          exact hh
        · rw [if_pos d]
          rw [h.1.2.1 _ _ (va_in_lt (vp7 hp)) (va_in_lt (vp7 ht))] at hy
          have hh := ih (i + 1) (irem (α 16 (40 * s + i)) 10) (m + α 1 (7 * p.toNatClampNeg + (irem (α 16 (40 * s + i)) 10).toNatClampNeg)) t (by omega) ht
          rw [← nI_1] at hh
          rw [hy]
          exact hh
      · rw [if_neg (by rw [c]; decide), sel3_2 d e]
      · rw [if_neg (by rw [c]; decide), sel3_1 d e]
      · rw [if_neg (by rw [c]; decide), sel3_0 d]
theorem pb_X7_judge {G : GW} {α μ : Mem} (hf : WF α) (h : VX α μ) (x1 x2 x3 : Int32) : pubX G mX7_judge 4 [(0, .ref 10), (1, .int x1), (2, .int x2), (3, .int x3)] α μ (.int (sp_judge α x1 x2 x3)) α := by
  have hk := keepM.rf μ
  refine sg_X7_judge_0 ⟨fun c => ?_, fun c => ?_⟩
  · obtain ⟨s, hs, rfl⟩ := inB_nI (m := 3) (by omega) c
    unfold sp_judge
    rw [if_pos c, ix_nI (by omega)]
    obtain ⟨-, e1, e2, -⟩ := sz_of hf h.1 (s := s) (by omega)
    obtain ⟨-, z, hz, ez⟩ := hf.2.2.2.2.2.2.2 s (by omega)
    rw [e1]
    refine ⟨vp4 c, fun d => ⟨fun e => ⟨fun f => ?_, fun f => ?_⟩, fun e => ?_⟩, fun d => ?_⟩
    · have d := of_decide_eq_false d
      rw [if_neg d, if_pos e, if_pos f, ez, ix_nI (by omega)]
      exact lp_X7_judge hf h (by omega) hz ez z 0 x2 0 0 (by omega) e
    · have d := of_decide_eq_false d
      rw [if_neg d, if_pos e, if_neg (by rw [f]; decide)]
      exact ⟨rfl, h, hk⟩
    · have d := of_decide_eq_false d
      rw [if_neg d, if_neg (by rw [e]; decide)]
      exact ⟨rfl, h, hk⟩
    · have d := of_decide_eq_true d
      rw [if_pos d]
      exact ⟨rfl, h, hk⟩
  · unfold sp_judge
    rw [if_neg (by rw [c]; decide)]
    exact ⟨rfl, h, hk⟩
/-! horsesBy -/
def hbA (s : Nat) : Nat → Int32 → Int32 → Mem → Int32 × Mem
  | 0, _, came, α => (came, α)
  | j + 1, next, came, α => if holdsB (α 15 s) next 4 = true then (if sp_horse α (numA α s next) (numA α s (next + 1)) (numA α s (next + 2)) (numA α s (next + 3)) < 0 then hbA s j (next + 4) (came + 0) (sq_horse α (numA α s next) (numA α s (next + 1)) (numA α s (next + 2)) (numA α s (next + 3))) else hbA s j (next + 4) (came + 1) (sq_horse α (numA α s next) (numA α s (next + 1)) (numA α s (next + 2)) (numA α s (next + 3)))) else (-12, α)
def byB (s sort n : Int32) : Bool := inB s 0 3 && (inB sort 0 2 && inB n 0 7)
def sp_horsesBy (α : Mem) (s sort at_ n : Int32) : Int32 := if byB s sort n = true then (if α 14 s.toNatClampNeg = -1 then -11 else if α 14 s.toNatClampNeg = sort then (hbA s.toNatClampNeg n.toNatClampNeg at_ 0 α).1 else -13) else -2
def sq_horsesBy (α : Mem) (s sort at_ n : Int32) : Mem := if byB s sort n = true ∧ ¬ α 14 s.toNatClampNeg = -1 ∧ α 14 s.toNatClampNeg = sort then (hbA s.toNatClampNeg n.toNatClampNeg at_ 0 α).2 else α
theorem wf_hbA (s : Nat) : ∀ j next came α, WF α → WF (hbA s j next came α).2 := by
  intro j
  induction j with
  | zero => intro next came α hf; exact hf
  | succ j ih =>
    intro next came α hf
    unfold hbA
    split
    · split
      · exact ih _ _ _ (wf_horse hf _ _ _ _)
      · exact ih _ _ _ (wf_horse hf _ _ _ _)
    · exact hf
theorem wf_horsesBy {α : Mem} (hf : WF α) (s sort at_ n : Int32) : WF (sq_horsesBy α s sort at_ n) := by
  unfold sq_horsesBy
  split
  · exact wf_hbA _ _ _ _ _ hf
  · exact hf
theorem sg_X7_horsesBy_0 {G : GW} {K : Option Value → Mem → Prop} {μ : Mem} {x1 x2 x3 x4 : Int32}  (h : (((inB x1 0 3) = false) → K (some (.int (-2))) μ) ∧ (((inB x1 0 3) = true) → (((inB x2 (0 : Int32) (2 : Int32)) = false) → K (some (.int (-2))) μ) ∧ (((inB x2 (0 : Int32) (2 : Int32)) = true) → (((inB x4 (0 : Int32) (7 : Int32)) = true) → (vp_in x1 4) ∧ (((decide (μ (74 + 2 * x1.toNatClampNeg) 1 = -1)) = false) → (((μ (74 + 2 * x1.toNatClampNeg) 1) = x2) → Ev2 G mX7_horsesBy 6 70 [(0, .ref 10), (4, .int x4), (5, .ref (74 + 2 * x1.toNatClampNeg)), (6, .int 0), (7, .int x3), (8, .int 0)] [] μ K) ∧ ((¬ ((μ (74 + 2 * x1.toNatClampNeg) 1) = x2)) → K (some (.int (-13))) μ)) ∧ (((decide (μ (74 + 2 * x1.toNatClampNeg) 1 = -1)) = true) → K (some (.int (-11))) μ)) ∧ (((inB x4 (0 : Int32) (7 : Int32)) = false) → K (some (.int (-2))) μ)))) : Ev2 G mX7_horsesBy 6 0 [(0, .ref 10), (1, .int x1), (2, .int x2), (3, .int x3), (4, .int x4)] [] μ K := by
  refine ev_iload_n dX7_horsesBy_0 1 rfl ?_
  refine e2_callS (w := .int (bi (inB x1 0 3))) (μ1 := μ) (as := [.int x1]) (st := []) ok_X7_isSheet sv_X7_isSheet ml_7_229 dX7_horsesBy_1 rfl rfl (Nat.le_of_ble_eq_true rfl) (Nat.le_of_ble_eq_true rfl) (by decide) (ct_X7_isSheet (x1) μ) ?_
  refine ev_ifeq_bi (tgt := 27) dX7_horsesBy_4 rfl (fun c1 => ?_) (fun c1 => ?_)
  · have h2 := h.1 c1
    refine ev_bipush (v := (-2)) dX7_horsesBy_27 rfl ?_
    exact ev_ireturn dX7_horsesBy_29 rfl True.intro rfl rfl ⟨rfl, h2⟩
  · have h3 := h.2 c1
    refine ev_iload_n dX7_horsesBy_7 2 rfl ?_
    refine ev_iconst (v := 0) dX7_horsesBy_8 rfl ?_
    refine ev_iconst (v := 2) dX7_horsesBy_9 rfl ?_
    refine e2_callS (w := .int (bi (inB x2 (0 : Int32) (2 : Int32)))) (μ1 := μ) (as := [.int x2, .int 0, .int 2]) (st := []) ok_X7_isWithin sv_X7_isWithin ml_7_86 dX7_horsesBy_10 rfl rfl (Nat.le_of_ble_eq_true rfl) (Nat.le_of_ble_eq_true rfl) (by decide) (ct_X7_isWithin (x2) (0) (2) μ) ?_
    refine ev_ifeq_bi (tgt := 27) dX7_horsesBy_13 rfl (fun c4 => ?_) (fun c4 => ?_)
    · have h5 := h3.1 c4
      refine ev_bipush (v := (-2)) dX7_horsesBy_27 rfl ?_
      exact ev_ireturn dX7_horsesBy_29 rfl True.intro rfl rfl ⟨rfl, h5⟩
    · have h6 := h3.2 c4
      refine ev_iload dX7_horsesBy_16 4 rfl ?_
      refine ev_iconst (v := 0) dX7_horsesBy_18 rfl ?_
      refine ev_bipush (v := 7) dX7_horsesBy_19 rfl ?_
      refine e2_callS (w := .int (bi (inB x4 (0 : Int32) (7 : Int32)))) (μ1 := μ) (as := [.int x4, .int 0, .int 7]) (st := []) ok_X7_isWithin sv_X7_isWithin ml_7_86 dX7_horsesBy_21 rfl rfl (Nat.le_of_ble_eq_true rfl) (Nat.le_of_ble_eq_true rfl) (by decide) (ct_X7_isWithin (x4) (0) (7) μ) ?_
      refine ev_ifne_bi (tgt := 30) dX7_horsesBy_24 rfl (fun c7 => ?_) (fun c7 => ?_)
      · have h8 := h6.1 c7
        refine ev_aload_n dX7_horsesBy_30 0 rfl (by decide) ?_
        refine ev_getR' fl_7_56 rfl kd_10 rf_10_8 dX7_horsesBy_31 ?_
        refine ev_iload_n dX7_horsesBy_34 1 rfl ?_
        have p10 := h8.1
        have h11 := h8.2
        refine ev_aaload' (k := 7) kd_42 (by omega) ln_42 p10 (raS p10) dX7_horsesBy_35 ?_
        refine ev_astore (lv' := [(0, .ref 10), (1, .int x1), (2, .int x2), (3, .int x3), (4, .int x4), (5, .ref (74 + 2 * x1.toNatClampNeg))]) dX7_horsesBy_36 (nzSh (isS p10)) (by decide) [1, 2, 3, 4, 5, 0] rfl ?_
        refine ev_aload dX7_horsesBy_38 5 rfl (nzSh (isS p10)) ?_
        refine e2_callV (w := .int (bi (decide (μ (74 + 2 * x1.toNatClampNeg) 1 = -1)))) (μ1 := μ) (a := (74 + 2 * x1.toNatClampNeg)) (as := []) (st := []) ok_X4_isMissing vi_X4_isMissing ml_7_232 hcl_4 (kdSh (isS p10)) dX7_horsesBy_40 rfl rfl (Nat.le_of_ble_eq_true rfl) (Nat.le_of_ble_eq_true rfl) (by decide) (ct_X4_isMissing (74 + 2 * x1.toNatClampNeg) (isS p10) μ) ?_
        refine ev_ifeq_bi (tgt := 49) dX7_horsesBy_43 rfl (fun c12 => ?_) (fun c12 => ?_)
        · have h13 := h11.1 c12
          refine ev_aload dX7_horsesBy_49 5 rfl (nzSh (isS p10)) ?_
          refine ev_getI' (v := (μ (74 + 2 * x1.toNatClampNeg) 1)) fl_7_286 rfl (kdSh (isS p10)) rfl dX7_horsesBy_51 ?_
          refine ev_iload_n dX7_horsesBy_54 2 rfl ?_
          refine ev_icmp_eq (tgt := 61) dX7_horsesBy_55 rfl (fun c15 => ?_) (fun c15 => ?_)
          · have h16 := h13.1 c15
            refine ev_iconst (v := 0) dX7_horsesBy_61 rfl ?_
            refine ev_istore (lv' := [(0, .ref 10), (1, .int x1), (2, .int x2), (3, .int x3), (4, .int x4), (5, .ref (74 + 2 * x1.toNatClampNeg)), (6, .int 0)]) dX7_horsesBy_62 (by decide) [1, 2, 3, 4, 5, 6, 0] rfl ?_
            refine ev_iload_n dX7_horsesBy_64 3 rfl ?_
            refine ev_istore (lv' := [(0, .ref 10), (1, .int x1), (2, .int x2), (3, .int x3), (4, .int x4), (5, .ref (74 + 2 * x1.toNatClampNeg)), (6, .int 0), (7, .int x3)]) dX7_horsesBy_65 (by decide) [1, 2, 3, 4, 5, 6, 7, 0] rfl ?_
            refine ev_iconst (v := 0) dX7_horsesBy_67 rfl ?_
            refine ev_istore (lv' := [(0, .ref 10), (1, .int x1), (2, .int x2), (3, .int x3), (4, .int x4), (5, .ref (74 + 2 * x1.toNatClampNeg)), (6, .int 0), (7, .int x3), (8, .int 0)]) dX7_horsesBy_68 (by decide) [1, 2, 3, 4, 5, 6, 7, 8, 0] rfl ?_
            refine EvW.less [0, 4, 5, 6, 7, 8] (lv' := [(0, .ref 10), (4, .int x4), (5, .ref (74 + 2 * x1.toNatClampNeg)), (6, .int 0), (7, .int x3), (8, .int 0)]) rfl ?_
            exact h16
          · have h17 := h13.2 c15
            refine ev_bipush (v := (-13)) dX7_horsesBy_58 rfl ?_
            exact ev_ireturn dX7_horsesBy_60 rfl True.intro rfl rfl ⟨rfl, h17⟩
        · have h14 := h11.2 c12
          refine ev_bipush (v := (-11)) dX7_horsesBy_46 rfl ?_
          exact ev_ireturn dX7_horsesBy_48 rfl True.intro rfl rfl ⟨rfl, h14⟩
      · have h9 := h6.2 c7
        refine ev_bipush (v := (-2)) dX7_horsesBy_27 rfl ?_
        exact ev_ireturn dX7_horsesBy_29 rfl True.intro rfl rfl ⟨rfl, h9⟩
theorem sg_X7_horsesBy_70 {G : GW} {K : Option Value → Mem → Prop} {μ : Mem} {x4 x6 x7 x8 : Int32} {r5 : Nat} (hr5 : isSh r5) (h : ((x4 ≤ x8) → K (some (.int x6)) μ) ∧ ((¬ (x4 ≤ x8)) → (((holdsB (μ r5 2) x7 (4 : Int32)) = true) → (szOK μ r5) ∧ (szOK μ r5) ∧ (szOK μ r5) ∧ (szOK μ r5) ∧ (∃ α, WF α ∧ VX α μ) ∧ ∀ (z17 : Int32) (μ18 : Mem), (∀ α, WF α → VX α μ → z17 = sp_horse α (numF μ r5 x7) (numF μ r5 (x7 + 1)) (numF μ r5 (x7 + 2)) (numF μ r5 (x7 + 3)) ∧ VX (sq_horse α (numF μ r5 x7) (numF μ r5 (x7 + 1)) (numF μ r5 (x7 + 2)) (numF μ r5 (x7 + 3))) μ18 ∧ keepM μ μ18) → ((z17 < 0) → Ev2 G mX7_horsesBy 6 70 [(0, .ref 10), (4, .int x4), (5, .ref r5), (6, .int (x6 + 0)), (7, .int (x7 + 4)), (8, .int (x8 + 1))] [] μ18 K) ∧ ((¬ (z17 < 0)) → Ev2 G mX7_horsesBy 6 70 [(0, .ref 10), (4, .int x4), (5, .ref r5), (6, .int (x6 + 1)), (7, .int (x7 + 4)), (8, .int (x8 + 1))] [] μ18 K)) ∧ (((holdsB (μ r5 2) x7 (4 : Int32)) = false) → K (some (.int (-12))) μ))) : Ev2 G mX7_horsesBy 6 70 [(0, .ref 10), (4, .int x4), (5, .ref r5), (6, .int x6), (7, .int x7), (8, .int x8)] [] μ K := by
  refine ev_iload dX7_horsesBy_70 5 rfl ?_
  refine ev_iload dX7_horsesBy_72 1 rfl ?_
  refine ev_icmp_ge (tgt := 155) dX7_horsesBy_74 rfl (fun c1 => ?_) (fun c1 => ?_)
  · have h2 := h.1 c1
    refine ev_iload dX7_horsesBy_155 3 rfl ?_
    exact ev_ireturn dX7_horsesBy_157 rfl True.intro rfl rfl ⟨rfl, h2⟩
  · have h3 := h.2 c1
    refine ev_aload dX7_horsesBy_77 2 rfl (nzSh hr5) ?_
    refine ev_iload dX7_horsesBy_79 4 rfl ?_
    refine ev_iconst (v := 4) dX7_horsesBy_81 rfl ?_
    refine e2_callV (w := .int (bi (holdsB (μ r5 2) x7 (4 : Int32)))) (μ1 := μ) (a := r5) (as := [.int x7, .int 4]) (st := []) ok_X4_holds vi_X4_holds ml_7_283 hcl_4 (kdSh hr5) dX7_horsesBy_82 rfl rfl (Nat.le_of_ble_eq_true rfl) (Nat.le_of_ble_eq_true rfl) (by decide) (ct_X4_holds r5 hr5 (x7) (4) μ) ?_
    refine ev_ifne_bi (tgt := 91) dX7_horsesBy_85 rfl (fun c4 => ?_) (fun c4 => ?_)
    · have h5 := h3.1 c4
      refine ev_aload_n dX7_horsesBy_91 0 rfl (by decide) ?_
      refine ev_aload dX7_horsesBy_92 2 rfl (nzSh hr5) ?_
      refine ev_iload dX7_horsesBy_94 4 rfl ?_
      have p7 := h5.1
      have h8 := h5.2
      refine e2_callV (w := .int (numF μ r5 x7)) (μ1 := μ) (a := r5) (as := [.int x7]) (st := [.ref 10]) ok_X4_numberAt vi_X4_numberAt ml_7_237 hcl_4 (kdSh hr5) dX7_horsesBy_96 rfl rfl (Nat.le_of_ble_eq_true rfl) (Nat.le_of_ble_eq_true rfl) (by decide) (ct_X4_numberAt r5 hr5 (x7) μ p7) ?_
      refine ev_aload dX7_horsesBy_99 2 rfl (nzSh hr5) ?_
      refine ev_iload dX7_horsesBy_101 4 rfl ?_
      refine ev_iconst (v := 1) dX7_horsesBy_103 rfl ?_
      refine ev_iadd dX7_horsesBy_104 ?_
      have p9 := h8.1
      have h10 := h8.2
      refine e2_callV (w := .int (numF μ r5 (x7 + 1))) (μ1 := μ) (a := r5) (as := [.int (x7 + 1)]) (st := [.int (numF μ r5 x7), .ref 10]) ok_X4_numberAt vi_X4_numberAt ml_7_237 hcl_4 (kdSh hr5) dX7_horsesBy_105 rfl rfl (Nat.le_of_ble_eq_true rfl) (Nat.le_of_ble_eq_true rfl) (by decide) (ct_X4_numberAt r5 hr5 ((x7 + 1)) μ p9) ?_
      refine ev_aload dX7_horsesBy_108 2 rfl (nzSh hr5) ?_
      refine ev_iload dX7_horsesBy_110 4 rfl ?_
      refine ev_iconst (v := 2) dX7_horsesBy_112 rfl ?_
      refine ev_iadd dX7_horsesBy_113 ?_
      have p11 := h10.1
      have h12 := h10.2
      refine e2_callV (w := .int (numF μ r5 (x7 + 2))) (μ1 := μ) (a := r5) (as := [.int (x7 + 2)]) (st := [.int (numF μ r5 (x7 + 1)), .int (numF μ r5 x7), .ref 10]) ok_X4_numberAt vi_X4_numberAt ml_7_237 hcl_4 (kdSh hr5) dX7_horsesBy_114 rfl rfl (Nat.le_of_ble_eq_true rfl) (Nat.le_of_ble_eq_true rfl) (by decide) (ct_X4_numberAt r5 hr5 ((x7 + 2)) μ p11) ?_
      refine ev_aload dX7_horsesBy_117 2 rfl (nzSh hr5) ?_
      refine ev_iload dX7_horsesBy_119 4 rfl ?_
      refine ev_iconst (v := 3) dX7_horsesBy_121 rfl ?_
      refine ev_iadd dX7_horsesBy_122 ?_
      have p13 := h12.1
      have h14 := h12.2
      refine e2_callV (w := .int (numF μ r5 (x7 + 3))) (μ1 := μ) (a := r5) (as := [.int (x7 + 3)]) (st := [.int (numF μ r5 (x7 + 2)), .int (numF μ r5 (x7 + 1)), .int (numF μ r5 x7), .ref 10]) ok_X4_numberAt vi_X4_numberAt ml_7_237 hcl_4 (kdSh hr5) dX7_horsesBy_123 rfl rfl (Nat.le_of_ble_eq_true rfl) (Nat.le_of_ble_eq_true rfl) (by decide) (ct_X4_numberAt r5 hr5 ((x7 + 3)) μ p13) ?_
      have p15 := h14.1
      have h16 := h14.2
      refine e2_callVr (Rl := fun z17 μ18 => ∀ α, WF α → VX α μ → z17 = sp_horse α (numF μ r5 x7) (numF μ r5 (x7 + 1)) (numF μ r5 (x7 + 2)) (numF μ r5 (x7 + 3)) ∧ VX (sq_horse α (numF μ r5 x7) (numF μ r5 (x7 + 1)) (numF μ r5 (x7 + 2)) (numF μ r5 (x7 + 3))) μ18 ∧ keepM μ μ18) (a := 10) (as := [.int (numF μ r5 x7), .int (numF μ r5 (x7 + 1)), .int (numF μ r5 (x7 + 2)), .int (numF μ r5 (x7 + 3))]) (st := []) ok_X7_horse vi_X7_horse ml_7_298 hcl_7 kd_10 dX7_horsesBy_126 rfl rfl (Nat.le_of_ble_eq_true rfl) (Nat.le_of_ble_eq_true rfl) (by decide) (ct_X7_horse ((numF μ r5 x7)) ((numF μ r5 (x7 + 1))) ((numF μ r5 (x7 + 2))) ((numF μ r5 (x7 + 3))) μ p15) (fun z17 μ18 r19 => ?_)
      have h20 := h16 z17 μ18 r19
      refine ev_istore (lv' := [(0, .ref 10), (4, .int x4), (5, .ref r5), (6, .int x6), (7, .int x7), (8, .int x8), (9, .int z17)]) dX7_horsesBy_129 (by decide) [1, 2, 3, 4, 5, 6, 0] rfl ?_
      refine ev_iload dX7_horsesBy_131 3 rfl ?_
      refine ev_iload dX7_horsesBy_133 6 rfl ?_
      refine ev_if_lt (tgt := 142) dX7_horsesBy_135 rfl (fun c21 => ?_) (fun c21 => ?_)
      · have h22 := h20.1 c21
        refine ev_iconst (v := 0) dX7_horsesBy_142 rfl ?_
        refine ev_iadd dX7_horsesBy_143 ?_
        refine ev_istore (lv' := [(0, .ref 10), (4, .int x4), (5, .ref r5), (6, .int (x6 + 0)), (7, .int x7), (8, .int x8), (9, .int z17)]) dX7_horsesBy_144 (by decide) [1, 2, 3, 0, 4, 5, 6] rfl ?_
        refine ev_iinc (v := (x7 + 4)) (lv' := [(0, .ref 10), (4, .int x4), (5, .ref r5), (6, .int (x6 + 0)), (7, .int (x7 + 4)), (8, .int x8), (9, .int z17)]) dX7_horsesBy_146 4 rfl rfl (by decide) [1, 2, 3, 4, 0, 5, 6] rfl ?_
        refine ev_iinc (v := (x8 + 1)) (lv' := [(0, .ref 10), (4, .int x4), (5, .ref r5), (6, .int (x6 + 0)), (7, .int (x7 + 4)), (8, .int (x8 + 1)), (9, .int z17)]) dX7_horsesBy_149 5 rfl rfl (by decide) [1, 2, 3, 4, 5, 0, 6] rfl ?_
        refine ev_goto (tgt := 70) dX7_horsesBy_152 rfl ?_
        refine EvW.less [0, 1, 2, 3, 4, 5] (lv' := [(0, .ref 10), (4, .int x4), (5, .ref r5), (6, .int (x6 + 0)), (7, .int (x7 + 4)), (8, .int (x8 + 1))]) rfl ?_
        exact h22
      · have h23 := h20.2 c21
        refine ev_iconst (v := 1) dX7_horsesBy_138 rfl ?_
        refine ev_goto (tgt := 143) dX7_horsesBy_139 rfl ?_
        refine ev_iadd dX7_horsesBy_143 ?_
        refine ev_istore (lv' := [(0, .ref 10), (4, .int x4), (5, .ref r5), (6, .int (x6 + 1)), (7, .int x7), (8, .int x8), (9, .int z17)]) dX7_horsesBy_144 (by decide) [1, 2, 3, 0, 4, 5, 6] rfl ?_
        refine ev_iinc (v := (x7 + 4)) (lv' := [(0, .ref 10), (4, .int x4), (5, .ref r5), (6, .int (x6 + 1)), (7, .int (x7 + 4)), (8, .int x8), (9, .int z17)]) dX7_horsesBy_146 4 rfl rfl (by decide) [1, 2, 3, 4, 0, 5, 6] rfl ?_
        refine ev_iinc (v := (x8 + 1)) (lv' := [(0, .ref 10), (4, .int x4), (5, .ref r5), (6, .int (x6 + 1)), (7, .int (x7 + 4)), (8, .int (x8 + 1)), (9, .int z17)]) dX7_horsesBy_149 5 rfl rfl (by decide) [1, 2, 3, 4, 5, 0, 6] rfl ?_
        refine ev_goto (tgt := 70) dX7_horsesBy_152 rfl ?_
        refine EvW.less [0, 1, 2, 3, 4, 5] (lv' := [(0, .ref 10), (4, .int x4), (5, .ref r5), (6, .int (x6 + 1)), (7, .int (x7 + 4)), (8, .int (x8 + 1))]) rfl ?_
        exact h23
    · have h6 := h3.2 c4
      refine ev_bipush (v := (-12)) dX7_horsesBy_88 rfl ?_
      exact ev_ireturn dX7_horsesBy_90 rfl True.intro rfl rfl ⟨rfl, h6⟩
theorem lp_X7_horsesBy {G : GW} {μ0 : Mem} {s N : Nat} (hs : s < 4) (hN : N ≤ 7) : ∀ j i (next came : Int32) (α μ : Mem), i + j = N → WF α → VX α μ → keepM μ0 μ → Ev2 G mX7_horsesBy 6 70 [(0, .ref 10), (4, .int (nI N)), (5, .ref (74 + 2 * s)), (6, .int came), (7, .int next), (8, .int (nI i))] [] μ (fun v μ' => v = some (.int (hbA s j next came α).1) ∧ VX (hbA s j next came α).2 μ' ∧ keepM μ0 μ') := by
  have ho : isSh (74 + 2 * s) := ⟨s, hs, rfl⟩
  intro j
  induction j with
  | zero =>
    intro i next came α μ hi hf h hm
    obtain rfl : i = N := by omega
    exact sg_X7_horsesBy_70 ho ⟨fun _ => ⟨rfl, h, hm⟩, fun c => absurd (nI_le (Nat.le_refl _) (by omega)) c⟩
  | succ j ih =>
    intro i next came α μ hi hf h hm
    obtain ⟨zk, e1, e2, e3⟩ := sz_of hf h.1 hs
    refine sg_X7_horsesBy_70 ho ⟨fun c => absurd c (nI_ge (by omega) (by omega)), fun _ => ?_⟩
    rw [e2, e3, e3, e3, e3]
    unfold hbA
    refine ⟨fun c => ⟨zk, zk, zk, zk, ⟨α, hf, h⟩, fun x ν hx => ?_⟩, fun c => ?_⟩
    · rw [if_pos c]
      obtain ⟨ex, h1, k1⟩ := hx α hf h
      rw [ex]
      refine ⟨fun d => ?_, fun d => ?_⟩
      · rw [if_pos d]
        have hh := ih (i + 1) (next + 4) (came + 0) _ ν (by omega) (wf_horse hf _ _ _ _) h1 (hm.tr k1)
        rw [← nI_1] at hh
        exact hh
      · rw [if_neg d]
        have hh := ih (i + 1) (next + 4) (came + 1) _ ν (by omega) (wf_horse hf _ _ _ _) h1 (hm.tr k1)
        rw [← nI_1] at hh
        exact hh
    · rw [if_neg (by rw [c]; decide)]
      exact ⟨rfl, h, hm⟩
theorem pb_X7_horsesBy {G : GW} {α μ : Mem} (hf : WF α) (h : VX α μ) (x1 x2 x3 x4 : Int32) : pubX G mX7_horsesBy 6 [(0, .ref 10), (1, .int x1), (2, .int x2), (3, .int x3), (4, .int x4)] α μ (.int (sp_horsesBy α x1 x2 x3 x4)) (sq_horsesBy α x1 x2 x3 x4) := by
  have no : byB x1 x2 x4 = false → some (Value.int (-2)) = some (Value.int (sp_horsesBy α x1 x2 x3 x4)) ∧ VX (sq_horsesBy α x1 x2 x3 x4) μ ∧ keepM μ μ := fun q => by
    unfold sp_horsesBy sq_horsesBy
    rw [if_neg (by rw [q]; decide), if_neg (by rw [q]; simp)]
    exact ⟨rfl, h, keepM.rf μ⟩
  refine sg_X7_horsesBy_0 ⟨fun c => no (by unfold byB; rw [c]; rfl), fun c1 => ⟨fun c => no (by unfold byB; rw [c1, c]; rfl), fun c2 => ⟨fun c3 => ?_, fun c => no (by unfold byB; rw [c1, c2, c]; rfl)⟩⟩⟩
  have ca : byB x1 x2 x4 = true := by
    unfold byB
    rw [c1, c2, c3]
    rfl
  obtain ⟨s, hs, rfl⟩ := inB_nI (m := 3) (by omega) c1
  obtain ⟨N, hN, rfl⟩ := inB_nI (m := 7) (by omega) c3
  unfold sp_horsesBy sq_horsesBy
  rw [if_pos ca, ix_nI (i := s) (by omega), ix_nI (i := N) (by omega)]
  obtain ⟨-, e1, e2, -⟩ := sz_of hf h.1 (s := s) (by omega)
  rw [e1]
  refine ⟨vp4 c1, fun d => ⟨fun e => ?_, fun e => ?_⟩, fun d => ?_⟩
  · have d := of_decide_eq_false d
    rw [if_neg d, if_pos e, if_pos ⟨ca, d, e⟩]
    exact lp_X7_horsesBy (by omega) hN N 0 x3 0 α μ (by omega) hf h (keepM.rf μ)
  · have d := of_decide_eq_false d
    rw [if_neg d, if_neg e, if_neg (fun q => e q.2.2)]
    exact ⟨rfl, h, keepM.rf μ⟩
  · have d := of_decide_eq_true d
    rw [if_pos d, if_neg (fun q => q.2.1 d)]
    exact ⟨rfl, h, keepM.rf μ⟩
