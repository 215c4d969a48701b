/-! ===== the class's public methods: horse, stand, at, all, worth, taken ===== -/
def asB (k ft td m : Int32) : Bool := inB k 0 5 && (inB ft 0 70 && (wayB (ft / 10) (irem ft 10) && (inB td 1 999 && inB m 0 9)))
def sp_horse (α : Mem) (k ft td m : Int32) : Int32 := if asB k ft td m = true then (if α 0 0 < 7 then α 0 0 else -4) else -2
def sq_horse (α : Mem) (k ft td m : Int32) : Mem := if asB k ft td m = true ∧ α 0 0 < 7 then newA α k (ft / 10) (irem ft 10) td m else α
theorem asB_t {k ft td m : Int32} (h : asB k ft td m = true) : (∃ u, u < 6 ∧ k = nI u) ∧ (∃ u, u < 7 ∧ ft / 10 = nI u) ∧ (∃ u, u < 7 ∧ irem ft 10 = nI u) ∧ ¬ ft / 10 = irem ft 10 ∧ (∃ u, 1 ≤ u ∧ u ≤ 999 ∧ td = nI u) ∧ ∃ u, u ≤ 9 ∧ m = nI u := by
  simp only [asB, Bool.and_eq_true] at h
  obtain ⟨h1, h2, h3, h4, h5⟩ := h
  obtain ⟨u1, g1, e1⟩ := inB_nI (m := 5) (by omega) h1
  obtain ⟨p, q, hp, hq, hpq, e2, e3⟩ := wayB_t h3
  obtain ⟨u4, g4, g4', e4⟩ := inB_mid (lo := 1) (hi := 999) (by omega) (by omega) h4
  obtain ⟨u5, g5, e5⟩ := inB_nI (m := 9) (by omega) h5
  refine ⟨⟨u1, by omega, e1⟩, ⟨p, hp, e2⟩, ⟨q, hq, e3⟩, ?_, ⟨u4, g4, g4', e4⟩, u5, g5, e5⟩
  rw [e2, e3]
  intro q
  exact hpq ((nI_eq (by omega) (by omega)).mp q)
theorem aN_lt {α : Mem} (hf : wfC α) (h : α 0 0 < 7) : aN α < 7 := by
  have := hf.1.2
  have h' : nI (aN α) < nI 7 := hf.1.1 ▸ h
  exact lt_nI (by omega) (by omega) h'
theorem wf_horse {α : Mem} (hf : WF α) (k ft td m : Int32) : WF (sq_horse α k ft td m) := by
  unfold sq_horse
  split
  · rename_i c
    obtain ⟨h1, h2, h3, h4, h5, h6⟩ := asB_t c.1
    exact wf_new hf (aN_lt hf.1 c.2) h1 h2 h3 h4 h5 h6
  · exact hf
theorem VX.horse {α μ : Mem} (hf : WF α) (h : VX α μ) {k ft td m : Int32} (c : asB k ft td m = true) (d : μ 10 9 < 7) : vp_in (μ 10 9) 7 ∧ vp_in (becomeM μ (43 + (μ 10 9).toNatClampNeg) k (ft / 10) (irem ft 10) td m 10 9) 7 ∧ hearOK (becomeM μ (43 + (μ 10 9).toNatClampNeg) k (ft / 10) (irem ft 10) td m) (43 + (becomeM μ (43 + (μ 10 9).toNatClampNeg) k (ft / 10) (irem ft 10) td m 10 9).toNatClampNeg) ∧ ∀ ν, hearR (becomeM μ (43 + (μ 10 9).toNatClampNeg) k (ft / 10) (irem ft 10) td m) (43 + (becomeM μ (43 + (μ 10 9).toNatClampNeg) k (ft / 10) (irem ft 10) td m 10 9).toNatClampNeg) ν → ν 10 9 + 1 - 1 = sp_horse α k ft td m ∧ VX (sq_horse α k ft td m) (mset ν 10 9 (ν 10 9 + 1)) ∧ keepM μ (mset ν 10 9 (ν 10 9 + 1)) := by
  have cN : μ 10 9 = α 0 0 := h.1.1.1
  rw [cN] at d
  have hn := aN_lt hf.1 d
  have e9 : becomeM μ (43 + (μ 10 9).toNatClampNeg) k (ft / 10) (irem ft 10) td m 10 9 = μ 10 9 := by
    unfold becomeM
    simp (disch := omega) only [mset_ne]
  have eN : (μ 10 9).toNatClampNeg = aN α := by rw [cN]; rfl
  rw [e9, eN]
  have hw : WF (newA α k (ft / 10) (irem ft 10) td m) := by
    obtain ⟨h1, h2, h3, h4, h5, h6⟩ := asB_t c
    exact wf_new hf hn h1 h2 h3 h4 h5 h6
  obtain ⟨f1, f2⟩ := foal hf h hn hw
  have v : vp_in (μ 10 9) 7 := by rw [cN, hf.1.1.1]; exact vp_nI hn (by omega)
  refine ⟨v, v, f1, fun ν hν => ?_⟩
  obtain ⟨a1, a2, a3, a4⟩ := f2 ν hν
  obtain ⟨b1, b2, b3⟩ := foal_all hf a1 a2 a3
  obtain ⟨g0, gN⟩ := newA_n hf.1 (k := k) (f := ft / 10) (t := irem ft 10) (td := td) (m := m)
  have n9 : ν 10 9 = nI (aN α) := a1.1.1.1.trans hf.1.1.1
  rw [n9, add1]
  have e1 : sp_horse α k ft td m = α 0 0 := by unfold sp_horse; rw [if_pos c, if_pos d]
  have e2 : sq_horse α k ft td m = newA α k (ft / 10) (irem ft 10) td m := by unfold sq_horse; rw [if_pos ⟨c, d⟩]
  rw [e1, e2]
  refine ⟨?_, ⟨?_, ?_⟩, a4.tr (keep_set ν (by omega) _)⟩
  · rw [← add1, Int32.add_sub_cancel]
    exact hf.1.1.1.symm
  · obtain ⟨vc, vw, vr, vh, vt, vi, vs, vx⟩ := a1.1
    have e : ∀ r, r ≠ 0 ∧ (r < 4 ∨ 9 < r) → newA α k (ft / 10) (irem ft 10) td m r = α r := fun r h => newA_row h.1 h.2
    have e0 : ∀ j, j ≠ 0 → newA α k (ft / 10) (irem ft 10) td m 0 j = α 0 j := fun j h => newA_0 h
    have n : ∀ r, r ≠ 10 → mset ν 10 9 (nI (aN α + 1)) r = ν r := fun r h => mset_ne h
    have n0 : ∀ k, k ≠ 9 → mset ν 10 9 (nI (aN α + 1)) 10 k = ν 10 k := fun k h => mset_other (by omega)
    refine ⟨⟨?_, ?_, ?_, ?_, ?_⟩, ?_, ?_, ?_, ?_, ?_, ?_, ?_⟩
    · rw [mset_same, g0]
    · rw [n0 10 (by omega), e0 1 (by omega)]; exact vc.2.1
    · rw [n0 11 (by omega), e0 2 (by omega)]; exact vc.2.2.1
    · rw [n0 12 (by omega), e0 3 (by omega)]; exact vc.2.2.2.1
    · rw [n 24 (by omega), e0 4 (by omega)]; exact vc.2.2.2.2
    · exact vw.eq (e 1 (by omega)) (fun a _ => n (12 + a) (by omega))
    · exact vr.eq (e0 1 (by omega)) (e 2 (by omega)) (e 3 (by omega)) (n 20 (by omega)) (n 21 (by omega))
    · exact fun i hi => (b1 i hi).eq (fun _ _ => rfl) (fun f _ => by rw [n (43 + i) (by omega)])
    · exact vt.eq (e0 4 (by omega)) (e 10 (by omega)) (n 25 (by omega))
    · exact vi.eq (e 11 (by omega)) (e 12 (by omega)) (e 13 (by omega)) (n 32 (by omega)) (fun a _ => n (34 + a) (by omega)) (n 41 (by omega))
    · exact vs.eq (e 14 (by omega)) (e 15 (by omega)) (e 16 (by omega)) (fun a _ _ => n a (by omega))
    · exact vx.eq hf.1 (e0 2 (by omega)) (e 17 (by omega)) (e 18 (by omega)) (fun a _ _ => n a (by omega))
  · intro i hi p hp
    rw [mset_ne (by omega)]
    exact b2 i hi p hp
theorem sg_X7_horse_0 {G : GW} {K : Option Value → Mem → Prop} {μ : Mem} {x1 x2 x3 x4 : Int32}  (h : (((inB x1 (0 : Int32) (5 : Int32)) = false) → ((¬ (0 : Int32) = 0) → (((μ 10 9) < 7) → (vp_in (μ 10 9) 7) ∧ (vp_in ((becomeM μ (43 + (μ 10 9).toNatClampNeg) x1 (x2 / 10) (x2 - x2 / 10 * 10) x3 x4) 10 9) 7) ∧ (hearOK (becomeM μ (43 + (μ 10 9).toNatClampNeg) x1 (x2 / 10) (x2 - x2 / 10 * 10) x3 x4) (43 + ((becomeM μ (43 + (μ 10 9).toNatClampNeg) x1 (x2 / 10) (x2 - x2 / 10 * 10) x3 x4) 10 9).toNatClampNeg)) ∧ ∀ μ16 : Mem, (hearR (becomeM μ (43 + (μ 10 9).toNatClampNeg) x1 (x2 / 10) (x2 - x2 / 10 * 10) x3 x4) (43 + ((becomeM μ (43 + (μ 10 9).toNatClampNeg) x1 (x2 / 10) (x2 - x2 / 10 * 10) x3 x4) 10 9).toNatClampNeg) μ16) → K (some (.int (((μ16 10 9) + 1) - 1))) (mset μ16 10 9 ((μ16 10 9) + 1))) ∧ ((¬ ((μ 10 9) < 7)) → K (some (.int (-4))) μ)) ∧ (((0 : Int32) = 0) → K (some (.int (-2))) μ)) ∧ (((inB x1 (0 : Int32) (5 : Int32)) = true) → (((inB x2 (0 : Int32) (70 : Int32)) = false) → ((¬ (0 : Int32) = 0) → (((μ 10 9) < 7) → (vp_in (μ 10 9) 7) ∧ (vp_in ((becomeM μ (43 + (μ 10 9).toNatClampNeg) x1 (x2 / 10) (x2 - x2 / 10 * 10) x3 x4) 10 9) 7) ∧ (hearOK (becomeM μ (43 + (μ 10 9).toNatClampNeg) x1 (x2 / 10) (x2 - x2 / 10 * 10) x3 x4) (43 + ((becomeM μ (43 + (μ 10 9).toNatClampNeg) x1 (x2 / 10) (x2 - x2 / 10 * 10) x3 x4) 10 9).toNatClampNeg)) ∧ ∀ μ34 : Mem, (hearR (becomeM μ (43 + (μ 10 9).toNatClampNeg) x1 (x2 / 10) (x2 - x2 / 10 * 10) x3 x4) (43 + ((becomeM μ (43 + (μ 10 9).toNatClampNeg) x1 (x2 / 10) (x2 - x2 / 10 * 10) x3 x4) 10 9).toNatClampNeg) μ34) → K (some (.int (((μ34 10 9) + 1) - 1))) (mset μ34 10 9 ((μ34 10 9) + 1))) ∧ ((¬ ((μ 10 9) < 7)) → K (some (.int (-4))) μ)) ∧ (((0 : Int32) = 0) → K (some (.int (-2))) μ)) ∧ (((inB x2 (0 : Int32) (70 : Int32)) = true) → (((wayB (x2 / 10) (x2 - x2 / 10 * 10)) = false) → ((¬ (0 : Int32) = 0) → (((μ 10 9) < 7) → (vp_in (μ 10 9) 7) ∧ (vp_in ((becomeM μ (43 + (μ 10 9).toNatClampNeg) x1 (x2 / 10) (x2 - x2 / 10 * 10) x3 x4) 10 9) 7) ∧ (hearOK (becomeM μ (43 + (μ 10 9).toNatClampNeg) x1 (x2 / 10) (x2 - x2 / 10 * 10) x3 x4) (43 + ((becomeM μ (43 + (μ 10 9).toNatClampNeg) x1 (x2 / 10) (x2 - x2 / 10 * 10) x3 x4) 10 9).toNatClampNeg)) ∧ ∀ μ52 : Mem, (hearR (becomeM μ (43 + (μ 10 9).toNatClampNeg) x1 (x2 / 10) (x2 - x2 / 10 * 10) x3 x4) (43 + ((becomeM μ (43 + (μ 10 9).toNatClampNeg) x1 (x2 / 10) (x2 - x2 / 10 * 10) x3 x4) 10 9).toNatClampNeg) μ52) → K (some (.int (((μ52 10 9) + 1) - 1))) (mset μ52 10 9 ((μ52 10 9) + 1))) ∧ ((¬ ((μ 10 9) < 7)) → K (some (.int (-4))) μ)) ∧ (((0 : Int32) = 0) → K (some (.int (-2))) μ)) ∧ (((wayB (x2 / 10) (x2 - x2 / 10 * 10)) = true) → (((inB x3 (1 : Int32) (999 : Int32)) = false) → ((¬ (0 : Int32) = 0) → (((μ 10 9) < 7) → (vp_in (μ 10 9) 7) ∧ (vp_in ((becomeM μ (43 + (μ 10 9).toNatClampNeg) x1 (x2 / 10) (x2 - x2 / 10 * 10) x3 x4) 10 9) 7) ∧ (hearOK (becomeM μ (43 + (μ 10 9).toNatClampNeg) x1 (x2 / 10) (x2 - x2 / 10 * 10) x3 x4) (43 + ((becomeM μ (43 + (μ 10 9).toNatClampNeg) x1 (x2 / 10) (x2 - x2 / 10 * 10) x3 x4) 10 9).toNatClampNeg)) ∧ ∀ μ70 : Mem, (hearR (becomeM μ (43 + (μ 10 9).toNatClampNeg) x1 (x2 / 10) (x2 - x2 / 10 * 10) x3 x4) (43 + ((becomeM μ (43 + (μ 10 9).toNatClampNeg) x1 (x2 / 10) (x2 - x2 / 10 * 10) x3 x4) 10 9).toNatClampNeg) μ70) → K (some (.int (((μ70 10 9) + 1) - 1))) (mset μ70 10 9 ((μ70 10 9) + 1))) ∧ ((¬ ((μ 10 9) < 7)) → K (some (.int (-4))) μ)) ∧ (((0 : Int32) = 0) → K (some (.int (-2))) μ)) ∧ (((inB x3 (1 : Int32) (999 : Int32)) = true) → (((inB x4 (0 : Int32) (9 : Int32)) = false) → ((¬ (0 : Int32) = 0) → (((μ 10 9) < 7) → (vp_in (μ 10 9) 7) ∧ (vp_in ((becomeM μ (43 + (μ 10 9).toNatClampNeg) x1 (x2 / 10) (x2 - x2 / 10 * 10) x3 x4) 10 9) 7) ∧ (hearOK (becomeM μ (43 + (μ 10 9).toNatClampNeg) x1 (x2 / 10) (x2 - x2 / 10 * 10) x3 x4) (43 + ((becomeM μ (43 + (μ 10 9).toNatClampNeg) x1 (x2 / 10) (x2 - x2 / 10 * 10) x3 x4) 10 9).toNatClampNeg)) ∧ ∀ μ88 : Mem, (hearR (becomeM μ (43 + (μ 10 9).toNatClampNeg) x1 (x2 / 10) (x2 - x2 / 10 * 10) x3 x4) (43 + ((becomeM μ (43 + (μ 10 9).toNatClampNeg) x1 (x2 / 10) (x2 - x2 / 10 * 10) x3 x4) 10 9).toNatClampNeg) μ88) → K (some (.int (((μ88 10 9) + 1) - 1))) (mset μ88 10 9 ((μ88 10 9) + 1))) ∧ ((¬ ((μ 10 9) < 7)) → K (some (.int (-4))) μ)) ∧ (((0 : Int32) = 0) → K (some (.int (-2))) μ)) ∧ (((inB x4 (0 : Int32) (9 : Int32)) = true) → ((¬ (1 : Int32) = 0) → (((μ 10 9) < 7) → (vp_in (μ 10 9) 7) ∧ (vp_in ((becomeM μ (43 + (μ 10 9).toNatClampNeg) x1 (x2 / 10) (x2 - x2 / 10 * 10) x3 x4) 10 9) 7) ∧ (hearOK (becomeM μ (43 + (μ 10 9).toNatClampNeg) x1 (x2 / 10) (x2 - x2 / 10 * 10) x3 x4) (43 + ((becomeM μ (43 + (μ 10 9).toNatClampNeg) x1 (x2 / 10) (x2 - x2 / 10 * 10) x3 x4) 10 9).toNatClampNeg)) ∧ ∀ μ103 : Mem, (hearR (becomeM μ (43 + (μ 10 9).toNatClampNeg) x1 (x2 / 10) (x2 - x2 / 10 * 10) x3 x4) (43 + ((becomeM μ (43 + (μ 10 9).toNatClampNeg) x1 (x2 / 10) (x2 - x2 / 10 * 10) x3 x4) 10 9).toNatClampNeg) μ103) → K (some (.int (((μ103 10 9) + 1) - 1))) (mset μ103 10 9 ((μ103 10 9) + 1))) ∧ ((¬ ((μ 10 9) < 7)) → K (some (.int (-4))) μ)) ∧ (((1 : Int32) = 0) → K (some (.int (-2))) μ))))))) : Ev2 G mX7_horse 5 0 [(0, .ref 10), (1, .int x1), (2, .int x2), (3, .int x3), (4, .int x4)] [] μ K := by
  refine ev_iload_n dX7_horse_0 1 rfl ?_
  refine ev_iconst (v := 0) dX7_horse_1 rfl ?_
  refine ev_iconst (v := 5) dX7_horse_2 rfl ?_
  refine e2_callS (w := .int (bi (inB x1 (0 : Int32) (5 : Int32)))) (μ1 := μ) (as := [.int x1, .int 0, .int 5]) (st := []) ok_X7_isWithin sv_X7_isWithin ml_7_86 dX7_horse_3 rfl rfl (Nat.le_of_ble_eq_true rfl) (Nat.le_of_ble_eq_true rfl) (by decide) (ct_X7_isWithin (x1) (0) (5) μ) ?_
  refine ev_ifeq_bi (tgt := 59) dX7_horse_6 rfl (fun c1 => ?_) (fun c1 => ?_)
  · have h2 := h.1 c1
    refine ev_iconst (v := 0) dX7_horse_59 rfl ?_
    refine ev_istore (lv' := [(0, .ref 10), (1, .int x1), (2, .int x2), (3, .int x3), (4, .int x4), (5, .int 0)]) dX7_horse_60 (by decide) [1, 2, 3, 4, 5, 0] rfl ?_
    refine ev_iload dX7_horse_62 5 rfl ?_
    refine ev_if_ne (tgt := 70) dX7_horse_64 rfl (fun c4 => ?_) (fun c4 => ?_)
    · have h5 := h2.1 c4
      refine ev_aload_n dX7_horse_70 0 rfl (by decide) ?_
      refine ev_getI' (v := (μ 10 9)) fl_7_60 rfl kd_10 rfl dX7_horse_71 ?_
      refine ev_bipush (v := 7) dX7_horse_74 rfl ?_
      refine ev_icmp_lt (tgt := 82) dX7_horse_76 rfl (fun c7 => ?_) (fun c7 => ?_)
      · have h8 := h5.1 c7
        refine ev_aload_n dX7_horse_82 0 rfl (by decide) ?_
        refine ev_getR' fl_7_16 rfl kd_10 rf_10_1 dX7_horse_83 ?_
        refine ev_aload_n dX7_horse_86 0 rfl (by decide) ?_
        refine ev_getI' (v := (μ 10 9)) fl_7_60 rfl kd_10 rfl dX7_horse_87 ?_
        have p10 := h8.1
        have h11 := h8.2
        refine ev_aaload' (k := 5) kd_19 (by omega) ln_19 p10 (raH p10) dX7_horse_90 ?_
        refine ev_iload_n dX7_horse_91 1 rfl ?_
        refine ev_iload_n dX7_horse_92 2 rfl ?_
        refine ev_bipush (v := 10) dX7_horse_93 rfl ?_
        refine ev_idiv dX7_horse_95 (by decide) ?_
        refine ev_iload_n dX7_horse_96 2 rfl ?_
        refine ev_bipush (v := 10) dX7_horse_97 rfl ?_
        refine ev_irem dX7_horse_99 (by decide) ?_
        refine ev_iload_n dX7_horse_100 3 rfl ?_
        refine ev_iload dX7_horse_101 4 rfl ?_
        refine e2_callVv (μ1 := (becomeM μ (43 + (μ 10 9).toNatClampNeg) x1 (x2 / 10) (x2 - x2 / 10 * 10) x3 x4)) (a := (43 + (μ 10 9).toNatClampNeg)) (as := [.int x1, .int (x2 / 10), .int (x2 - x2 / 10 * 10), .int x3, .int x4]) (st := []) ok_X0_become vi_X0_become ml_7_140 hcl_0 (kdHo (isH p10)) dX7_horse_103 rfl rfl (Nat.le_of_ble_eq_true rfl) (Nat.le_of_ble_eq_true rfl) (by decide) (ct_X0_become (43 + (μ 10 9).toNatClampNeg) (isH p10) (x1) ((x2 / 10)) ((x2 - x2 / 10 * 10)) (x3) (x4) μ) ?_
        refine ev_aload_n dX7_horse_106 0 rfl (by decide) ?_
        refine ev_aload_n dX7_horse_107 0 rfl (by decide) ?_
        refine ev_getR' fl_7_16 rfl kd_10 rf_10_1 dX7_horse_108 ?_
        refine ev_aload_n dX7_horse_111 0 rfl (by decide) ?_
        refine ev_getI' (v := ((becomeM μ (43 + (μ 10 9).toNatClampNeg) x1 (x2 / 10) (x2 - x2 / 10 * 10) x3 x4) 10 9)) fl_7_60 rfl kd_10 rfl dX7_horse_112 ?_
        have p12 := h11.1
        have h13 := h11.2
        refine ev_aaload' (k := 5) kd_19 (by omega) ln_19 p12 (raH p12) dX7_horse_115 ?_
        have p14 := h13.1
        have h15 := h13.2
        refine e2_callVrv (Rl := fun μ16 => hearR (becomeM μ (43 + (μ 10 9).toNatClampNeg) x1 (x2 / 10) (x2 - x2 / 10 * 10) x3 x4) (43 + ((becomeM μ (43 + (μ 10 9).toNatClampNeg) x1 (x2 / 10) (x2 - x2 / 10 * 10) x3 x4) 10 9).toNatClampNeg) μ16) (a := 10) (as := [.ref (43 + ((becomeM μ (43 + (μ 10 9).toNatClampNeg) x1 (x2 / 10) (x2 - x2 / 10 * 10) x3 x4) 10 9).toNatClampNeg)]) (st := []) ok_X7_hearLaw vi_X7_hearLaw ml_7_144 hcl_7 kd_10 dX7_horse_116 rfl rfl (Nat.le_of_ble_eq_true rfl) (Nat.le_of_ble_eq_true rfl) (by decide) (ct_X7_hearLaw (43 + ((becomeM μ (43 + (μ 10 9).toNatClampNeg) x1 (x2 / 10) (x2 - x2 / 10 * 10) x3 x4) 10 9).toNatClampNeg) (isH p12) (becomeM μ (43 + (μ 10 9).toNatClampNeg) x1 (x2 / 10) (x2 - x2 / 10 * 10) x3 x4) p14) (fun μ16 r17 => ?_)
        have h18 := h15 μ16 r17
        refine ev_aload_n dX7_horse_119 0 rfl (by decide) ?_
        refine ev_dup dX7_horse_120 rfl ?_
        refine ev_getI' (v := (μ16 10 9)) fl_7_60 rfl kd_10 rfl dX7_horse_121 ?_
        refine ev_iconst (v := 1) dX7_horse_124 rfl ?_
        refine ev_iadd dX7_horse_125 ?_
        refine ev_putI fl_7_60 ⟨rfl, rfl, rfl⟩ (fun r hr => by cases hr; rfl) kd_10 dX7_horse_126 ?_
        refine ev_aload_n dX7_horse_129 0 rfl (by decide) ?_
        refine ev_getI' (v := ((μ16 10 9) + 1)) fl_7_60 rfl kd_10 rfl dX7_horse_130 ?_
        refine ev_iconst (v := 1) dX7_horse_133 rfl ?_
        refine ev_isub dX7_horse_134 ?_
        exact ev_ireturn dX7_horse_135 rfl True.intro rfl rfl ⟨rfl, h18⟩
      · have h9 := h5.2 c7
        refine ev_bipush (v := (-4)) dX7_horse_79 rfl ?_
        exact ev_ireturn dX7_horse_81 rfl True.intro rfl rfl ⟨rfl, h9⟩
    · have h6 := h2.2 c4
      refine ev_bipush (v := (-2)) dX7_horse_67 rfl ?_
      exact ev_ireturn dX7_horse_69 rfl True.intro rfl rfl ⟨rfl, h6⟩
  · have h3 := h.2 c1
    refine ev_iload_n dX7_horse_9 2 rfl ?_
    refine ev_iconst (v := 0) dX7_horse_10 rfl ?_
    refine ev_bipush (v := 70) dX7_horse_11 rfl ?_
    refine e2_callS (w := .int (bi (inB x2 (0 : Int32) (70 : Int32)))) (μ1 := μ) (as := [.int x2, .int 0, .int 70]) (st := []) ok_X7_isWithin sv_X7_isWithin ml_7_86 dX7_horse_13 rfl rfl (Nat.le_of_ble_eq_true rfl) (Nat.le_of_ble_eq_true rfl) (by decide) (ct_X7_isWithin (x2) (0) (70) μ) ?_
    refine ev_ifeq_bi (tgt := 59) dX7_horse_16 rfl (fun c19 => ?_) (fun c19 => ?_)
    · have h20 := h3.1 c19
      refine ev_iconst (v := 0) dX7_horse_59 rfl ?_
      refine ev_istore (lv' := [(0, .ref 10), (1, .int x1), (2, .int x2), (3, .int x3), (4, .int x4), (5, .int 0)]) dX7_horse_60 (by decide) [1, 2, 3, 4, 5, 0] rfl ?_
      refine ev_iload dX7_horse_62 5 rfl ?_
      refine ev_if_ne (tgt := 70) dX7_horse_64 rfl (fun c22 => ?_) (fun c22 => ?_)
      · have h23 := h20.1 c22
        refine ev_aload_n dX7_horse_70 0 rfl (by decide) ?_
        refine ev_getI' (v := (μ 10 9)) fl_7_60 rfl kd_10 rfl dX7_horse_71 ?_
        refine ev_bipush (v := 7) dX7_horse_74 rfl ?_
        refine ev_icmp_lt (tgt := 82) dX7_horse_76 rfl (fun c25 => ?_) (fun c25 => ?_)
        · have h26 := h23.1 c25
          refine ev_aload_n dX7_horse_82 0 rfl (by decide) ?_
          refine ev_getR' fl_7_16 rfl kd_10 rf_10_1 dX7_horse_83 ?_
          refine ev_aload_n dX7_horse_86 0 rfl (by decide) ?_
          refine ev_getI' (v := (μ 10 9)) fl_7_60 rfl kd_10 rfl dX7_horse_87 ?_
          have p28 := h26.1
          have h29 := h26.2
          refine ev_aaload' (k := 5) kd_19 (by omega) ln_19 p28 (raH p28) dX7_horse_90 ?_
          refine ev_iload_n dX7_horse_91 1 rfl ?_
          refine ev_iload_n dX7_horse_92 2 rfl ?_
          refine ev_bipush (v := 10) dX7_horse_93 rfl ?_
          refine ev_idiv dX7_horse_95 (by decide) ?_
          refine ev_iload_n dX7_horse_96 2 rfl ?_
          refine ev_bipush (v := 10) dX7_horse_97 rfl ?_
          refine ev_irem dX7_horse_99 (by decide) ?_
          refine ev_iload_n dX7_horse_100 3 rfl ?_
          refine ev_iload dX7_horse_101 4 rfl ?_
          refine e2_callVv (μ1 := (becomeM μ (43 + (μ 10 9).toNatClampNeg) x1 (x2 / 10) (x2 - x2 / 10 * 10) x3 x4)) (a := (43 + (μ 10 9).toNatClampNeg)) (as := [.int x1, .int (x2 / 10), .int (x2 - x2 / 10 * 10), .int x3, .int x4]) (st := []) ok_X0_become vi_X0_become ml_7_140 hcl_0 (kdHo (isH p28)) dX7_horse_103 rfl rfl (Nat.le_of_ble_eq_true rfl) (Nat.le_of_ble_eq_true rfl) (by decide) (ct_X0_become (43 + (μ 10 9).toNatClampNeg) (isH p28) (x1) ((x2 / 10)) ((x2 - x2 / 10 * 10)) (x3) (x4) μ) ?_
          refine ev_aload_n dX7_horse_106 0 rfl (by decide) ?_
          refine ev_aload_n dX7_horse_107 0 rfl (by decide) ?_
          refine ev_getR' fl_7_16 rfl kd_10 rf_10_1 dX7_horse_108 ?_
          refine ev_aload_n dX7_horse_111 0 rfl (by decide) ?_
          refine ev_getI' (v := ((becomeM μ (43 + (μ 10 9).toNatClampNeg) x1 (x2 / 10) (x2 - x2 / 10 * 10) x3 x4) 10 9)) fl_7_60 rfl kd_10 rfl dX7_horse_112 ?_
          have p30 := h29.1
          have h31 := h29.2
          refine ev_aaload' (k := 5) kd_19 (by omega) ln_19 p30 (raH p30) dX7_horse_115 ?_
          have p32 := h31.1
          have h33 := h31.2
          refine e2_callVrv (Rl := fun μ34 => hearR (becomeM μ (43 + (μ 10 9).toNatClampNeg) x1 (x2 / 10) (x2 - x2 / 10 * 10) x3 x4) (43 + ((becomeM μ (43 + (μ 10 9).toNatClampNeg) x1 (x2 / 10) (x2 - x2 / 10 * 10) x3 x4) 10 9).toNatClampNeg) μ34) (a := 10) (as := [.ref (43 + ((becomeM μ (43 + (μ 10 9).toNatClampNeg) x1 (x2 / 10) (x2 - x2 / 10 * 10) x3 x4) 10 9).toNatClampNeg)]) (st := []) ok_X7_hearLaw vi_X7_hearLaw ml_7_144 hcl_7 kd_10 dX7_horse_116 rfl rfl (Nat.le_of_ble_eq_true rfl) (Nat.le_of_ble_eq_true rfl) (by decide) (ct_X7_hearLaw (43 + ((becomeM μ (43 + (μ 10 9).toNatClampNeg) x1 (x2 / 10) (x2 - x2 / 10 * 10) x3 x4) 10 9).toNatClampNeg) (isH p30) (becomeM μ (43 + (μ 10 9).toNatClampNeg) x1 (x2 / 10) (x2 - x2 / 10 * 10) x3 x4) p32) (fun μ34 r35 => ?_)
          have h36 := h33 μ34 r35
          refine ev_aload_n dX7_horse_119 0 rfl (by decide) ?_
          refine ev_dup dX7_horse_120 rfl ?_
          refine ev_getI' (v := (μ34 10 9)) fl_7_60 rfl kd_10 rfl dX7_horse_121 ?_
          refine ev_iconst (v := 1) dX7_horse_124 rfl ?_
          refine ev_iadd dX7_horse_125 ?_
          refine ev_putI fl_7_60 ⟨rfl, rfl, rfl⟩ (fun r hr => by cases hr; rfl) kd_10 dX7_horse_126 ?_
          refine ev_aload_n dX7_horse_129 0 rfl (by decide) ?_
          refine ev_getI' (v := ((μ34 10 9) + 1)) fl_7_60 rfl kd_10 rfl dX7_horse_130 ?_
          refine ev_iconst (v := 1) dX7_horse_133 rfl ?_
          refine ev_isub dX7_horse_134 ?_
          exact ev_ireturn dX7_horse_135 rfl True.intro rfl rfl ⟨rfl, h36⟩
        · have h27 := h23.2 c25
          refine ev_bipush (v := (-4)) dX7_horse_79 rfl ?_
          exact ev_ireturn dX7_horse_81 rfl True.intro rfl rfl ⟨rfl, h27⟩
      · have h24 := h20.2 c22
        refine ev_bipush (v := (-2)) dX7_horse_67 rfl ?_
        exact ev_ireturn dX7_horse_69 rfl True.intro rfl rfl ⟨rfl, h24⟩
    · have h21 := h3.2 c19
      refine ev_iload_n dX7_horse_19 2 rfl ?_
      refine ev_bipush (v := 10) dX7_horse_20 rfl ?_
      refine ev_idiv dX7_horse_22 (by decide) ?_
      refine ev_iload_n dX7_horse_23 2 rfl ?_
      refine ev_bipush (v := 10) dX7_horse_24 rfl ?_
      refine ev_irem dX7_horse_26 (by decide) ?_
      refine e2_callS (w := .int (bi (wayB (x2 / 10) (x2 - x2 / 10 * 10)))) (μ1 := μ) (as := [.int (x2 / 10), .int (x2 - x2 / 10 * 10)]) (st := []) ok_X7_isWay sv_X7_isWay ml_7_82 dX7_horse_27 rfl rfl (Nat.le_of_ble_eq_true rfl) (Nat.le_of_ble_eq_true rfl) (by decide) (ct_X7_isWay ((x2 / 10)) ((x2 - x2 / 10 * 10)) μ) ?_
      refine ev_ifeq_bi (tgt := 59) dX7_horse_30 rfl (fun c37 => ?_) (fun c37 => ?_)
      · have h38 := h21.1 c37
        refine ev_iconst (v := 0) dX7_horse_59 rfl ?_
        refine ev_istore (lv' := [(0, .ref 10), (1, .int x1), (2, .int x2), (3, .int x3), (4, .int x4), (5, .int 0)]) dX7_horse_60 (by decide) [1, 2, 3, 4, 5, 0] rfl ?_
        refine ev_iload dX7_horse_62 5 rfl ?_
        refine ev_if_ne (tgt := 70) dX7_horse_64 rfl (fun c40 => ?_) (fun c40 => ?_)
        · have h41 := h38.1 c40
          refine ev_aload_n dX7_horse_70 0 rfl (by decide) ?_
          refine ev_getI' (v := (μ 10 9)) fl_7_60 rfl kd_10 rfl dX7_horse_71 ?_
          refine ev_bipush (v := 7) dX7_horse_74 rfl ?_
          refine ev_icmp_lt (tgt := 82) dX7_horse_76 rfl (fun c43 => ?_) (fun c43 => ?_)
          · have h44 := h41.1 c43
            refine ev_aload_n dX7_horse_82 0 rfl (by decide) ?_
            refine ev_getR' fl_7_16 rfl kd_10 rf_10_1 dX7_horse_83 ?_
            refine ev_aload_n dX7_horse_86 0 rfl (by decide) ?_
            refine ev_getI' (v := (μ 10 9)) fl_7_60 rfl kd_10 rfl dX7_horse_87 ?_
            have p46 := h44.1
            have h47 := h44.2
            refine ev_aaload' (k := 5) kd_19 (by omega) ln_19 p46 (raH p46) dX7_horse_90 ?_
            refine ev_iload_n dX7_horse_91 1 rfl ?_
            refine ev_iload_n dX7_horse_92 2 rfl ?_
            refine ev_bipush (v := 10) dX7_horse_93 rfl ?_
            refine ev_idiv dX7_horse_95 (by decide) ?_
            refine ev_iload_n dX7_horse_96 2 rfl ?_
            refine ev_bipush (v := 10) dX7_horse_97 rfl ?_
            refine ev_irem dX7_horse_99 (by decide) ?_
            refine ev_iload_n dX7_horse_100 3 rfl ?_
            refine ev_iload dX7_horse_101 4 rfl ?_
            refine e2_callVv (μ1 := (becomeM μ (43 + (μ 10 9).toNatClampNeg) x1 (x2 / 10) (x2 - x2 / 10 * 10) x3 x4)) (a := (43 + (μ 10 9).toNatClampNeg)) (as := [.int x1, .int (x2 / 10), .int (x2 - x2 / 10 * 10), .int x3, .int x4]) (st := []) ok_X0_become vi_X0_become ml_7_140 hcl_0 (kdHo (isH p46)) dX7_horse_103 rfl rfl (Nat.le_of_ble_eq_true rfl) (Nat.le_of_ble_eq_true rfl) (by decide) (ct_X0_become (43 + (μ 10 9).toNatClampNeg) (isH p46) (x1) ((x2 / 10)) ((x2 - x2 / 10 * 10)) (x3) (x4) μ) ?_
            refine ev_aload_n dX7_horse_106 0 rfl (by decide) ?_
            refine ev_aload_n dX7_horse_107 0 rfl (by decide) ?_
            refine ev_getR' fl_7_16 rfl kd_10 rf_10_1 dX7_horse_108 ?_
            refine ev_aload_n dX7_horse_111 0 rfl (by decide) ?_
            refine ev_getI' (v := ((becomeM μ (43 + (μ 10 9).toNatClampNeg) x1 (x2 / 10) (x2 - x2 / 10 * 10) x3 x4) 10 9)) fl_7_60 rfl kd_10 rfl dX7_horse_112 ?_
            have p48 := h47.1
            have h49 := h47.2
            refine ev_aaload' (k := 5) kd_19 (by omega) ln_19 p48 (raH p48) dX7_horse_115 ?_
            have p50 := h49.1
            have h51 := h49.2
            refine e2_callVrv (Rl := fun μ52 => hearR (becomeM μ (43 + (μ 10 9).toNatClampNeg) x1 (x2 / 10) (x2 - x2 / 10 * 10) x3 x4) (43 + ((becomeM μ (43 + (μ 10 9).toNatClampNeg) x1 (x2 / 10) (x2 - x2 / 10 * 10) x3 x4) 10 9).toNatClampNeg) μ52) (a := 10) (as := [.ref (43 + ((becomeM μ (43 + (μ 10 9).toNatClampNeg) x1 (x2 / 10) (x2 - x2 / 10 * 10) x3 x4) 10 9).toNatClampNeg)]) (st := []) ok_X7_hearLaw vi_X7_hearLaw ml_7_144 hcl_7 kd_10 dX7_horse_116 rfl rfl (Nat.le_of_ble_eq_true rfl) (Nat.le_of_ble_eq_true rfl) (by decide) (ct_X7_hearLaw (43 + ((becomeM μ (43 + (μ 10 9).toNatClampNeg) x1 (x2 / 10) (x2 - x2 / 10 * 10) x3 x4) 10 9).toNatClampNeg) (isH p48) (becomeM μ (43 + (μ 10 9).toNatClampNeg) x1 (x2 / 10) (x2 - x2 / 10 * 10) x3 x4) p50) (fun μ52 r53 => ?_)
            have h54 := h51 μ52 r53
            refine ev_aload_n dX7_horse_119 0 rfl (by decide) ?_
            refine ev_dup dX7_horse_120 rfl ?_
            refine ev_getI' (v := (μ52 10 9)) fl_7_60 rfl kd_10 rfl dX7_horse_121 ?_
            refine ev_iconst (v := 1) dX7_horse_124 rfl ?_
            refine ev_iadd dX7_horse_125 ?_
            refine ev_putI fl_7_60 ⟨rfl, rfl, rfl⟩ (fun r hr => by cases hr; rfl) kd_10 dX7_horse_126 ?_
            refine ev_aload_n dX7_horse_129 0 rfl (by decide) ?_
            refine ev_getI' (v := ((μ52 10 9) + 1)) fl_7_60 rfl kd_10 rfl dX7_horse_130 ?_
            refine ev_iconst (v := 1) dX7_horse_133 rfl ?_
            refine ev_isub dX7_horse_134 ?_
            exact ev_ireturn dX7_horse_135 rfl True.intro rfl rfl ⟨rfl, h54⟩
          · have h45 := h41.2 c43
            refine ev_bipush (v := (-4)) dX7_horse_79 rfl ?_
            exact ev_ireturn dX7_horse_81 rfl True.intro rfl rfl ⟨rfl, h45⟩
        · have h42 := h38.2 c40
          refine ev_bipush (v := (-2)) dX7_horse_67 rfl ?_
          exact ev_ireturn dX7_horse_69 rfl True.intro rfl rfl ⟨rfl, h42⟩
      · have h39 := h21.2 c37
        refine ev_iload_n dX7_horse_33 3 rfl ?_
        refine ev_iconst (v := 1) dX7_horse_34 rfl ?_
        refine ev_sipush (v := 999) dX7_horse_35 rfl ?_
        refine e2_callS (w := .int (bi (inB x3 (1 : Int32) (999 : Int32)))) (μ1 := μ) (as := [.int x3, .int 1, .int 999]) (st := []) ok_X7_isWithin sv_X7_isWithin ml_7_86 dX7_horse_38 rfl rfl (Nat.le_of_ble_eq_true rfl) (Nat.le_of_ble_eq_true rfl) (by decide) (ct_X7_isWithin (x3) (1) (999) μ) ?_
        refine ev_ifeq_bi (tgt := 59) dX7_horse_41 rfl (fun c55 => ?_) (fun c55 => ?_)
        · have h56 := h39.1 c55
          refine ev_iconst (v := 0) dX7_horse_59 rfl ?_
          refine ev_istore (lv' := [(0, .ref 10), (1, .int x1), (2, .int x2), (3, .int x3), (4, .int x4), (5, .int 0)]) dX7_horse_60 (by decide) [1, 2, 3, 4, 5, 0] rfl ?_
          refine ev_iload dX7_horse_62 5 rfl ?_
          refine ev_if_ne (tgt := 70) dX7_horse_64 rfl (fun c58 => ?_) (fun c58 => ?_)
          · have h59 := h56.1 c58
            refine ev_aload_n dX7_horse_70 0 rfl (by decide) ?_
            refine ev_getI' (v := (μ 10 9)) fl_7_60 rfl kd_10 rfl dX7_horse_71 ?_
            refine ev_bipush (v := 7) dX7_horse_74 rfl ?_
            refine ev_icmp_lt (tgt := 82) dX7_horse_76 rfl (fun c61 => ?_) (fun c61 => ?_)
            · have h62 := h59.1 c61
              refine ev_aload_n dX7_horse_82 0 rfl (by decide) ?_
              refine ev_getR' fl_7_16 rfl kd_10 rf_10_1 dX7_horse_83 ?_
              refine ev_aload_n dX7_horse_86 0 rfl (by decide) ?_
              refine ev_getI' (v := (μ 10 9)) fl_7_60 rfl kd_10 rfl dX7_horse_87 ?_
              have p64 := h62.1
              have h65 := h62.2
              refine ev_aaload' (k := 5) kd_19 (by omega) ln_19 p64 (raH p64) dX7_horse_90 ?_
              refine ev_iload_n dX7_horse_91 1 rfl ?_
              refine ev_iload_n dX7_horse_92 2 rfl ?_
              refine ev_bipush (v := 10) dX7_horse_93 rfl ?_
              refine ev_idiv dX7_horse_95 (by decide) ?_
              refine ev_iload_n dX7_horse_96 2 rfl ?_
              refine ev_bipush (v := 10) dX7_horse_97 rfl ?_
              refine ev_irem dX7_horse_99 (by decide) ?_
              refine ev_iload_n dX7_horse_100 3 rfl ?_
              refine ev_iload dX7_horse_101 4 rfl ?_
              refine e2_callVv (μ1 := (becomeM μ (43 + (μ 10 9).toNatClampNeg) x1 (x2 / 10) (x2 - x2 / 10 * 10) x3 x4)) (a := (43 + (μ 10 9).toNatClampNeg)) (as := [.int x1, .int (x2 / 10), .int (x2 - x2 / 10 * 10), .int x3, .int x4]) (st := []) ok_X0_become vi_X0_become ml_7_140 hcl_0 (kdHo (isH p64)) dX7_horse_103 rfl rfl (Nat.le_of_ble_eq_true rfl) (Nat.le_of_ble_eq_true rfl) (by decide) (ct_X0_become (43 + (μ 10 9).toNatClampNeg) (isH p64) (x1) ((x2 / 10)) ((x2 - x2 / 10 * 10)) (x3) (x4) μ) ?_
              refine ev_aload_n dX7_horse_106 0 rfl (by decide) ?_
              refine ev_aload_n dX7_horse_107 0 rfl (by decide) ?_
              refine ev_getR' fl_7_16 rfl kd_10 rf_10_1 dX7_horse_108 ?_
              refine ev_aload_n dX7_horse_111 0 rfl (by decide) ?_
              refine ev_getI' (v := ((becomeM μ (43 + (μ 10 9).toNatClampNeg) x1 (x2 / 10) (x2 - x2 / 10 * 10) x3 x4) 10 9)) fl_7_60 rfl kd_10 rfl dX7_horse_112 ?_
              have p66 := h65.1
              have h67 := h65.2
              refine ev_aaload' (k := 5) kd_19 (by omega) ln_19 p66 (raH p66) dX7_horse_115 ?_
              have p68 := h67.1
              have h69 := h67.2
              refine e2_callVrv (Rl := fun μ70 => hearR (becomeM μ (43 + (μ 10 9).toNatClampNeg) x1 (x2 / 10) (x2 - x2 / 10 * 10) x3 x4) (43 + ((becomeM μ (43 + (μ 10 9).toNatClampNeg) x1 (x2 / 10) (x2 - x2 / 10 * 10) x3 x4) 10 9).toNatClampNeg) μ70) (a := 10) (as := [.ref (43 + ((becomeM μ (43 + (μ 10 9).toNatClampNeg) x1 (x2 / 10) (x2 - x2 / 10 * 10) x3 x4) 10 9).toNatClampNeg)]) (st := []) ok_X7_hearLaw vi_X7_hearLaw ml_7_144 hcl_7 kd_10 dX7_horse_116 rfl rfl (Nat.le_of_ble_eq_true rfl) (Nat.le_of_ble_eq_true rfl) (by decide) (ct_X7_hearLaw (43 + ((becomeM μ (43 + (μ 10 9).toNatClampNeg) x1 (x2 / 10) (x2 - x2 / 10 * 10) x3 x4) 10 9).toNatClampNeg) (isH p66) (becomeM μ (43 + (μ 10 9).toNatClampNeg) x1 (x2 / 10) (x2 - x2 / 10 * 10) x3 x4) p68) (fun μ70 r71 => ?_)
              have h72 := h69 μ70 r71
              refine ev_aload_n dX7_horse_119 0 rfl (by decide) ?_
              refine ev_dup dX7_horse_120 rfl ?_
              refine ev_getI' (v := (μ70 10 9)) fl_7_60 rfl kd_10 rfl dX7_horse_121 ?_
              refine ev_iconst (v := 1) dX7_horse_124 rfl ?_
              refine ev_iadd dX7_horse_125 ?_
              refine ev_putI fl_7_60 ⟨rfl, rfl, rfl⟩ (fun r hr => by cases hr; rfl) kd_10 dX7_horse_126 ?_
              refine ev_aload_n dX7_horse_129 0 rfl (by decide) ?_
              refine ev_getI' (v := ((μ70 10 9) + 1)) fl_7_60 rfl kd_10 rfl dX7_horse_130 ?_
              refine ev_iconst (v := 1) dX7_horse_133 rfl ?_
              refine ev_isub dX7_horse_134 ?_
              exact ev_ireturn dX7_horse_135 rfl True.intro rfl rfl ⟨rfl, h72⟩
            · have h63 := h59.2 c61
              refine ev_bipush (v := (-4)) dX7_horse_79 rfl ?_
              exact ev_ireturn dX7_horse_81 rfl True.intro rfl rfl ⟨rfl, h63⟩
          · have h60 := h56.2 c58
            refine ev_bipush (v := (-2)) dX7_horse_67 rfl ?_
            exact ev_ireturn dX7_horse_69 rfl True.intro rfl rfl ⟨rfl, h60⟩
        · have h57 := h39.2 c55
          refine ev_iload dX7_horse_44 4 rfl ?_
          refine ev_iconst (v := 0) dX7_horse_46 rfl ?_
          refine ev_bipush (v := 9) dX7_horse_47 rfl ?_
          refine e2_callS (w := .int (bi (inB x4 (0 : Int32) (9 : Int32)))) (μ1 := μ) (as := [.int x4, .int 0, .int 9]) (st := []) ok_X7_isWithin sv_X7_isWithin ml_7_86 dX7_horse_49 rfl rfl (Nat.le_of_ble_eq_true rfl) (Nat.le_of_ble_eq_true rfl) (by decide) (ct_X7_isWithin (x4) (0) (9) μ) ?_
          refine ev_ifeq_bi (tgt := 59) dX7_horse_52 rfl (fun c73 => ?_) (fun c73 => ?_)
          · have h74 := h57.1 c73
            refine ev_iconst (v := 0) dX7_horse_59 rfl ?_
            refine ev_istore (lv' := [(0, .ref 10), (1, .int x1), (2, .int x2), (3, .int x3), (4, .int x4), (5, .int 0)]) dX7_horse_60 (by decide) [1, 2, 3, 4, 5, 0] rfl ?_
            refine ev_iload dX7_horse_62 5 rfl ?_
            refine ev_if_ne (tgt := 70) dX7_horse_64 rfl (fun c76 => ?_) (fun c76 => ?_)
            · have h77 := h74.1 c76
              refine ev_aload_n dX7_horse_70 0 rfl (by decide) ?_
              refine ev_getI' (v := (μ 10 9)) fl_7_60 rfl kd_10 rfl dX7_horse_71 ?_
              refine ev_bipush (v := 7) dX7_horse_74 rfl ?_
              refine ev_icmp_lt (tgt := 82) dX7_horse_76 rfl (fun c79 => ?_) (fun c79 => ?_)
              · have h80 := h77.1 c79
                refine ev_aload_n dX7_horse_82 0 rfl (by decide) ?_
                refine ev_getR' fl_7_16 rfl kd_10 rf_10_1 dX7_horse_83 ?_
                refine ev_aload_n dX7_horse_86 0 rfl (by decide) ?_
                refine ev_getI' (v := (μ 10 9)) fl_7_60 rfl kd_10 rfl dX7_horse_87 ?_
                have p82 := h80.1
                have h83 := h80.2
                refine ev_aaload' (k := 5) kd_19 (by omega) ln_19 p82 (raH p82) dX7_horse_90 ?_
                refine ev_iload_n dX7_horse_91 1 rfl ?_
                refine ev_iload_n dX7_horse_92 2 rfl ?_
                refine ev_bipush (v := 10) dX7_horse_93 rfl ?_
                refine ev_idiv dX7_horse_95 (by decide) ?_
                refine ev_iload_n dX7_horse_96 2 rfl ?_
                refine ev_bipush (v := 10) dX7_horse_97 rfl ?_
                refine ev_irem dX7_horse_99 (by decide) ?_
                refine ev_iload_n dX7_horse_100 3 rfl ?_
                refine ev_iload dX7_horse_101 4 rfl ?_
                refine e2_callVv (μ1 := (becomeM μ (43 + (μ 10 9).toNatClampNeg) x1 (x2 / 10) (x2 - x2 / 10 * 10) x3 x4)) (a := (43 + (μ 10 9).toNatClampNeg)) (as := [.int x1, .int (x2 / 10), .int (x2 - x2 / 10 * 10), .int x3, .int x4]) (st := []) ok_X0_become vi_X0_become ml_7_140 hcl_0 (kdHo (isH p82)) dX7_horse_103 rfl rfl (Nat.le_of_ble_eq_true rfl) (Nat.le_of_ble_eq_true rfl) (by decide) (ct_X0_become (43 + (μ 10 9).toNatClampNeg) (isH p82) (x1) ((x2 / 10)) ((x2 - x2 / 10 * 10)) (x3) (x4) μ) ?_
                refine ev_aload_n dX7_horse_106 0 rfl (by decide) ?_
                refine ev_aload_n dX7_horse_107 0 rfl (by decide) ?_
                refine ev_getR' fl_7_16 rfl kd_10 rf_10_1 dX7_horse_108 ?_
                refine ev_aload_n dX7_horse_111 0 rfl (by decide) ?_
                refine ev_getI' (v := ((becomeM μ (43 + (μ 10 9).toNatClampNeg) x1 (x2 / 10) (x2 - x2 / 10 * 10) x3 x4) 10 9)) fl_7_60 rfl kd_10 rfl dX7_horse_112 ?_
                have p84 := h83.1
                have h85 := h83.2
                refine ev_aaload' (k := 5) kd_19 (by omega) ln_19 p84 (raH p84) dX7_horse_115 ?_
                have p86 := h85.1
                have h87 := h85.2
                refine e2_callVrv (Rl := fun μ88 => hearR (becomeM μ (43 + (μ 10 9).toNatClampNeg) x1 (x2 / 10) (x2 - x2 / 10 * 10) x3 x4) (43 + ((becomeM μ (43 + (μ 10 9).toNatClampNeg) x1 (x2 / 10) (x2 - x2 / 10 * 10) x3 x4) 10 9).toNatClampNeg) μ88) (a := 10) (as := [.ref (43 + ((becomeM μ (43 + (μ 10 9).toNatClampNeg) x1 (x2 / 10) (x2 - x2 / 10 * 10) x3 x4) 10 9).toNatClampNeg)]) (st := []) ok_X7_hearLaw vi_X7_hearLaw ml_7_144 hcl_7 kd_10 dX7_horse_116 rfl rfl (Nat.le_of_ble_eq_true rfl) (Nat.le_of_ble_eq_true rfl) (by decide) (ct_X7_hearLaw (43 + ((becomeM μ (43 + (μ 10 9).toNatClampNeg) x1 (x2 / 10) (x2 - x2 / 10 * 10) x3 x4) 10 9).toNatClampNeg) (isH p84) (becomeM μ (43 + (μ 10 9).toNatClampNeg) x1 (x2 / 10) (x2 - x2 / 10 * 10) x3 x4) p86) (fun μ88 r89 => ?_)
                have h90 := h87 μ88 r89
                refine ev_aload_n dX7_horse_119 0 rfl (by decide) ?_
                refine ev_dup dX7_horse_120 rfl ?_
                refine ev_getI' (v := (μ88 10 9)) fl_7_60 rfl kd_10 rfl dX7_horse_121 ?_
                refine ev_iconst (v := 1) dX7_horse_124 rfl ?_
                refine ev_iadd dX7_horse_125 ?_
                refine ev_putI fl_7_60 ⟨rfl, rfl, rfl⟩ (fun r hr => by cases hr; rfl) kd_10 dX7_horse_126 ?_
                refine ev_aload_n dX7_horse_129 0 rfl (by decide) ?_
                refine ev_getI' (v := ((μ88 10 9) + 1)) fl_7_60 rfl kd_10 rfl dX7_horse_130 ?_
                refine ev_iconst (v := 1) dX7_horse_133 rfl ?_
                refine ev_isub dX7_horse_134 ?_
                exact ev_ireturn dX7_horse_135 rfl True.intro rfl rfl ⟨rfl, h90⟩
              · have h81 := h77.2 c79
                refine ev_bipush (v := (-4)) dX7_horse_79 rfl ?_
                exact ev_ireturn dX7_horse_81 rfl True.intro rfl rfl ⟨rfl, h81⟩
            · have h78 := h74.2 c76
              refine ev_bipush (v := (-2)) dX7_horse_67 rfl ?_
              exact ev_ireturn dX7_horse_69 rfl True.intro rfl rfl ⟨rfl, h78⟩
          · have h75 := h57.2 c73
            refine ev_iconst (v := 1) dX7_horse_55 rfl ?_
            refine ev_goto (tgt := 60) dX7_horse_56 rfl ?_
            refine ev_istore (lv' := [(0, .ref 10), (1, .int x1), (2, .int x2), (3, .int x3), (4, .int x4), (5, .int 1)]) dX7_horse_60 (by decide) [1, 2, 3, 4, 5, 0] rfl ?_
            refine ev_iload dX7_horse_62 5 rfl ?_
            refine ev_if_ne (tgt := 70) dX7_horse_64 rfl (fun c91 => ?_) (fun c91 => ?_)
            · have h92 := h75.1 c91
              refine ev_aload_n dX7_horse_70 0 rfl (by decide) ?_
              refine ev_getI' (v := (μ 10 9)) fl_7_60 rfl kd_10 rfl dX7_horse_71 ?_
              refine ev_bipush (v := 7) dX7_horse_74 rfl ?_
              refine ev_icmp_lt (tgt := 82) dX7_horse_76 rfl (fun c94 => ?_) (fun c94 => ?_)
              · have h95 := h92.1 c94
                refine ev_aload_n dX7_horse_82 0 rfl (by decide) ?_
                refine ev_getR' fl_7_16 rfl kd_10 rf_10_1 dX7_horse_83 ?_
                refine ev_aload_n dX7_horse_86 0 rfl (by decide) ?_
                refine ev_getI' (v := (μ 10 9)) fl_7_60 rfl kd_10 rfl dX7_horse_87 ?_
                have p97 := h95.1
                have h98 := h95.2
                refine ev_aaload' (k := 5) kd_19 (by omega) ln_19 p97 (raH p97) dX7_horse_90 ?_
                refine ev_iload_n dX7_horse_91 1 rfl ?_
                refine ev_iload_n dX7_horse_92 2 rfl ?_
                refine ev_bipush (v := 10) dX7_horse_93 rfl ?_
                refine ev_idiv dX7_horse_95 (by decide) ?_
                refine ev_iload_n dX7_horse_96 2 rfl ?_
                refine ev_bipush (v := 10) dX7_horse_97 rfl ?_
                refine ev_irem dX7_horse_99 (by decide) ?_
                refine ev_iload_n dX7_horse_100 3 rfl ?_
                refine ev_iload dX7_horse_101 4 rfl ?_
                refine e2_callVv (μ1 := (becomeM μ (43 + (μ 10 9).toNatClampNeg) x1 (x2 / 10) (x2 - x2 / 10 * 10) x3 x4)) (a := (43 + (μ 10 9).toNatClampNeg)) (as := [.int x1, .int (x2 / 10), .int (x2 - x2 / 10 * 10), .int x3, .int x4]) (st := []) ok_X0_become vi_X0_become ml_7_140 hcl_0 (kdHo (isH p97)) dX7_horse_103 rfl rfl (Nat.le_of_ble_eq_true rfl) (Nat.le_of_ble_eq_true rfl) (by decide) (ct_X0_become (43 + (μ 10 9).toNatClampNeg) (isH p97) (x1) ((x2 / 10)) ((x2 - x2 / 10 * 10)) (x3) (x4) μ) ?_
                refine ev_aload_n dX7_horse_106 0 rfl (by decide) ?_
                refine ev_aload_n dX7_horse_107 0 rfl (by decide) ?_
                refine ev_getR' fl_7_16 rfl kd_10 rf_10_1 dX7_horse_108 ?_
                refine ev_aload_n dX7_horse_111 0 rfl (by decide) ?_
                refine ev_getI' (v := ((becomeM μ (43 + (μ 10 9).toNatClampNeg) x1 (x2 / 10) (x2 - x2 / 10 * 10) x3 x4) 10 9)) fl_7_60 rfl kd_10 rfl dX7_horse_112 ?_
                have p99 := h98.1
                have h100 := h98.2
                refine ev_aaload' (k := 5) kd_19 (by omega) ln_19 p99 (raH p99) dX7_horse_115 ?_
                have p101 := h100.1
                have h102 := h100.2
                refine e2_callVrv (Rl := fun μ103 => hearR (becomeM μ (43 + (μ 10 9).toNatClampNeg) x1 (x2 / 10) (x2 - x2 / 10 * 10) x3 x4) (43 + ((becomeM μ (43 + (μ 10 9).toNatClampNeg) x1 (x2 / 10) (x2 - x2 / 10 * 10) x3 x4) 10 9).toNatClampNeg) μ103) (a := 10) (as := [.ref (43 + ((becomeM μ (43 + (μ 10 9).toNatClampNeg) x1 (x2 / 10) (x2 - x2 / 10 * 10) x3 x4) 10 9).toNatClampNeg)]) (st := []) ok_X7_hearLaw vi_X7_hearLaw ml_7_144 hcl_7 kd_10 dX7_horse_116 rfl rfl (Nat.le_of_ble_eq_true rfl) (Nat.le_of_ble_eq_true rfl) (by decide) (ct_X7_hearLaw (43 + ((becomeM μ (43 + (μ 10 9).toNatClampNeg) x1 (x2 / 10) (x2 - x2 / 10 * 10) x3 x4) 10 9).toNatClampNeg) (isH p99) (becomeM μ (43 + (μ 10 9).toNatClampNeg) x1 (x2 / 10) (x2 - x2 / 10 * 10) x3 x4) p101) (fun μ103 r104 => ?_)
                have h105 := h102 μ103 r104
                refine ev_aload_n dX7_horse_119 0 rfl (by decide) ?_
                refine ev_dup dX7_horse_120 rfl ?_
                refine ev_getI' (v := (μ103 10 9)) fl_7_60 rfl kd_10 rfl dX7_horse_121 ?_
                refine ev_iconst (v := 1) dX7_horse_124 rfl ?_
                refine ev_iadd dX7_horse_125 ?_
                refine ev_putI fl_7_60 ⟨rfl, rfl, rfl⟩ (fun r hr => by cases hr; rfl) kd_10 dX7_horse_126 ?_
                refine ev_aload_n dX7_horse_129 0 rfl (by decide) ?_
                refine ev_getI' (v := ((μ103 10 9) + 1)) fl_7_60 rfl kd_10 rfl dX7_horse_130 ?_
                refine ev_iconst (v := 1) dX7_horse_133 rfl ?_
                refine ev_isub dX7_horse_134 ?_
                exact ev_ireturn dX7_horse_135 rfl True.intro rfl rfl ⟨rfl, h105⟩
              · have h96 := h92.2 c94
                refine ev_bipush (v := (-4)) dX7_horse_79 rfl ?_
                exact ev_ireturn dX7_horse_81 rfl True.intro rfl rfl ⟨rfl, h96⟩
            · have h93 := h75.2 c91
              refine ev_bipush (v := (-2)) dX7_horse_67 rfl ?_
              exact ev_ireturn dX7_horse_69 rfl True.intro rfl rfl ⟨rfl, h93⟩
theorem horse_no {α μ : Mem} {k ft td m : Int32} (h : asB k ft td m = false) : VX α μ → (-2 : Int32) = sp_horse α k ft td m ∧ VX (sq_horse α k ft td m) μ ∧ keepM μ μ := fun hv => by
  unfold sp_horse sq_horse
  rw [if_neg (by rw [h]; decide), if_neg (by rw [h]; simp)]
  exact ⟨rfl, hv, keepM.rf μ⟩
theorem ct_X7_horse {G : GW} (x1 x2 x3 x4 : Int32) (μ : Mem) (hp : ∃ α, WF α ∧ VX α μ) : Ev2 G mX7_horse 5 0 [(0, .ref 10), (1, .int x1), (2, .int x2), (3, .int x3), (4, .int x4)] [] μ (fun v μ' => ∃ x, v = some (.int x) ∧ (∀ α, WF α → VX α μ → x = sp_horse α x1 x2 x3 x4 ∧ VX (sq_horse α x1 x2 x3 x4) μ' ∧ keepM μ μ')) := by
  obtain ⟨α0, hf0, h0⟩ := hp
  refine sg_X7_horse_0 ⟨fun c => ⟨fun q => absurd rfl q, fun _ => ⟨_, rfl, fun α hf h => horse_no (by unfold asB; rw [c]; rfl) h⟩⟩, fun c1 => ⟨fun c => ⟨fun q => absurd rfl q, fun _ => ⟨_, rfl, fun α hf h => horse_no (by unfold asB; rw [c1, c]; rfl) h⟩⟩, fun c2 => ⟨fun c => ⟨fun q => absurd rfl q, fun _ => ⟨_, rfl, fun α hf h => horse_no (by unfold asB irem; rw [c1, c2, c]; rfl) h⟩⟩, fun c3 => ⟨fun c => ⟨fun q => absurd rfl q, fun _ => ⟨_, rfl, fun α hf h => horse_no (by unfold asB irem; rw [c1, c2, c3, c]; rfl) h⟩⟩, fun c4 => ⟨fun c => ⟨fun q => absurd rfl q, fun _ => ⟨_, rfl, fun α hf h => horse_no (by unfold asB irem; rw [c1, c2, c3, c4, c]; rfl) h⟩⟩, fun c5 => ⟨fun _ => ⟨fun d => ?_, fun d => ⟨_, rfl, fun α hf h => ?_⟩⟩, fun q => absurd q (by decide)⟩⟩⟩⟩⟩⟩
  · have ca : asB x1 x2 x3 x4 = true := by
      unfold asB irem
      rw [c1, c2, c3, c4, c5]
      rfl
    obtain ⟨a1, a2, a3, a4⟩ := VX.horse hf0 h0 ca d
    exact ⟨a1, a2, a3, fun ν hν => ⟨_, rfl, fun α hf h => (VX.horse hf h ca d).2.2.2 ν hν⟩⟩
  · have ca : asB x1 x2 x3 x4 = true := by
      unfold asB irem
      rw [c1, c2, c3, c4, c5]
      rfl
    have cN : μ 10 9 = α 0 0 := h.1.1.1
    rw [cN] at d
    unfold sp_horse sq_horse
    rw [if_pos ca, if_neg d, if_neg (fun q => d q.2)]
    exact ⟨rfl, h, keepM.rf μ⟩
theorem pb_X7_horse {G : GW} {α μ : Mem} (hf : WF α) (h : VX α μ) (x1 x2 x3 x4 : Int32) : pubX G mX7_horse 5 [(0, .ref 10), (1, .int x1), (2, .int x2), (3, .int x3), (4, .int x4)] α μ (.int (sp_horse α x1 x2 x3 x4)) (sq_horse α x1 x2 x3 x4) := by
  refine ev2_imp (ct_X7_horse x1 x2 x3 x4 μ ⟨α, hf, h⟩) ?_
  rintro v μ' ⟨x, rfl, q⟩
  obtain ⟨e, h1, h2⟩ := q α hf h
  exact ⟨by rw [e], h1, h2⟩
/-! stand -/
def readyA (α : Mem) (i : Nat) (v : Int32) : Mem := mset α 9 i v
def sp_stand (α : Mem) (x v : Int32) : Int32 := if inB x 0 (α 0 0 - 1) = true then (if inB v 0 999 = true then α 9 x.toNatClampNeg else -7) else -5
def sq_stand (α : Mem) (x v : Int32) : Mem := if inB x 0 (α 0 0 - 1) = true ∧ inB v 0 999 = true then readyA α x.toNatClampNeg v else α
theorem wf_ready {α : Mem} (hf : WF α) {i r : Nat} (hr : r ≤ 999) : WF (readyA α i (nI r)) := by
  obtain ⟨wc, ww, wr, wh, wt, wx, wi, ws⟩ := hf
  have e : ∀ r', r' ≠ 9 → readyA α i (nI r) r' = α r' := fun r' h => mset_ne h
  refine ⟨wc.eq (fun k _ => by rw [e 0 (by omega)]), ww.eq (e 1 (by omega)), wr.eq (by rw [e 0 (by omega)]) (e 2 (by omega)) (e 3 (by omega)), fun j hj => ?_, wt.eq (by rw [e 0 (by omega)]) (e 10 (by omega)), wx.eq (by rw [e 0 (by omega)]) (e 17 (by omega)) (e 18 (by omega)), wi.eq (by unfold aN; rw [e 0 (by omega)]; exact Nat.le_refl _) (by unfold aR; rw [e 0 (by omega)]; exact Nat.le_refl _) (by unfold aX; rw [e 0 (by omega)]; exact Nat.le_refl _) (e 11 (by omega)) (e 12 (by omega)) (e 13 (by omega)), ws.eq (e 14 (by omega)) (e 15 (by omega))⟩
  have hj' : j < aN α := by unfold aN at hj; rw [e 0 (by omega)] at hj; exact hj
  obtain ⟨h1, h2, h3, h4, h5, h6, h7⟩ := wh j hj'
  unfold wfH1
  rw [e 4 (by omega), e 5 (by omega), e 6 (by omega), e 7 (by omega), e 8 (by omega)]
  refine ⟨h1, h2, h3, h4, h5, h6, ?_⟩
  by_cases c : j = i
  · subst c
    exact ⟨r, hr, mset_same⟩
  · have : readyA α i (nI r) 9 j = α 9 j := mset_other (by omega)
    rw [this]
    exact h7
theorem wf_stand {α : Mem} (hf : WF α) (x v : Int32) : WF (sq_stand α x v) := by
  unfold sq_stand
  split
  · rename_i c
    obtain ⟨w, h2, rfl⟩ := inB_nI (m := 999) (by omega) c.2
    exact wf_ready hf (by omega)
  · exact hf
/-- one horse changed and heard anew -/
theorem one_heard {α β μ μ1 : Mem} (hf : WF α) (h : VX α μ) {i : Nat} (hi : i < aN α) (hb : WF β) (e : ∀ r, (r < 4 ∨ 9 < r) → β r = α r) (eo : ∀ r j, j ≠ i → β r j = α r j) (n : ∀ a, a ≠ 43 + i → μ1 a = μ a) (hv : vXh1 β μ1 i) : hearOK μ1 (43 + i) ∧ ∀ ν, hearR μ1 (43 + i) ν → VX β ν ∧ keepM μ ν := by
  obtain ⟨⟨vc, vw, vr, vh, vt, vi, vs, vx⟩, vd⟩ := h
  have hi7 : i < 7 := Nat.lt_of_lt_of_le hi hf.1.1.2
  have e0 : ∀ k, k < 5 → β 0 k = α 0 k := fun k _ => by rw [e 0 (by omega)]
  have eN : aN β = aN α := by unfold aN; rw [e 0 (by omega)]
  have hl := law_of (α := β) (μ := μ1) hi7 hv (hb.2.2.2.1 i (by omega)) (vw.eq (e 1 (by omega)) (fun a _ => n (12 + a) (by omega))) hb.2.2.2.2.2.1 (vx.eq hf.1 (e0 2 (by omega)) (e 17 (by omega)) (e 18 (by omega)) (fun a _ _ => n a (by omega))) (by rw [n 10 (by omega), e 0 (by omega)]; exact vc.2.2.2.1) hb.1.2.2.2.1 hb.1.2.2.1.2
  refine ⟨hl.1, fun ν hν => ⟨⟨?_, ?_⟩, fun a ha => by rw [hν.2.2 a (by omega) (TS_no (by omega)), n a (by omega)]⟩⟩
  · have hx : VX0 β μ1 := by
      refine ⟨vc.eq e0 (fun k _ _ => by rw [n 10 (by omega)]) (by rw [n 24 (by omega)]), ?_, vr.eq (e0 1 (by omega)) (e 2 (by omega)) (e 3 (by omega)) (n 20 (by omega)) (n 21 (by omega)), fun j hj => ?_, vt.eq (e0 4 (by omega)) (e 10 (by omega)) (n 25 (by omega)), ?_, ?_, ?_⟩
      · exact vw.eq (e 1 (by omega)) (fun a _ => n (12 + a) (by omega))
      · rw [eN] at hj
        by_cases c : j = i
        · rw [c]; exact hv
        · exact (vh j hj).eq (fun f _ => eo _ _ c) (fun f _ => by rw [n (43 + j) (by omega)])
      · exact vi.eq (e 11 (by omega)) (e 12 (by omega)) (e 13 (by omega)) (n 32 (by omega)) (fun a _ => n (34 + a) (by omega)) (n 41 (by omega))
      · exact vs.eq (e 14 (by omega)) (e 15 (by omega)) (e 16 (by omega)) (fun a _ _ => n a (by omega))
      · exact vx.eq hf.1 (e0 2 (by omega)) (e 17 (by omega)) (e 18 (by omega)) (fun a _ _ => n a (by omega))
    refine hx.same hb (fun a k _ h2 _ h3 => ?_)
    by_cases c : a = 43 + i
    · rw [c]
      exact hν.2.1 k (by omega)
    · rw [hν.2.2 a c (fun q => h3 (Or.inr (Or.inr (Or.inr q))))]
  · intro j hj p hp
    rw [eN] at hj
    have hj7 : j < 7 := Nat.lt_of_lt_of_le hj hf.1.1.2
    by_cases c : j = i
    · subst c
      rw [hν.1 p hp]
      exact hl.2 p hp
    · rw [hν.2.2 (43 + j) (by omega) (TS_no (by omega)), n (43 + j) (by omega), saidA_eq (e0 3 (by omega)) (e 1 (by omega)) (fun f _ => eo _ _ c) (e 17 (by omega)) (e 18 (by omega))]
      exact vd j hj p hp
theorem sg_X7_stand_0 {G : GW} {K : Option Value → Mem → Prop} {μ : Mem} {x1 x2 : Int32}  (h : (((inB x1 0 (μ 10 9 - 1)) = true) → (((inB x2 (0 : Int32) (999 : Int32)) = true) → (vp_in x1 7) ∧ ∀ y9 : Int32, y9 = (μ (43 + x1.toNatClampNeg) 5) → (vp_in x1 7) ∧ (vp_in x1 7) ∧ (hearOK (mset μ (43 + x1.toNatClampNeg) 5 x2) (43 + x1.toNatClampNeg)) ∧ ∀ μ17 : Mem, (hearR (mset μ (43 + x1.toNatClampNeg) 5 x2) (43 + x1.toNatClampNeg) μ17) → K (some (.int y9)) μ17) ∧ (((inB x2 (0 : Int32) (999 : Int32)) = false) → K (some (.int (-7))) μ)) ∧ (((inB x1 0 (μ 10 9 - 1)) = false) → K (some (.int (-5))) μ)) : Ev2 G mX7_stand 5 0 [(0, .ref 10), (1, .int x1), (2, .int x2)] [] μ K := by
  refine ev_aload_n dX7_stand_0 0 rfl (by decide) ?_
  refine ev_iload_n dX7_stand_1 1 rfl ?_
  refine e2_callV (w := .int (bi (inB x1 0 (μ 10 9 - 1)))) (μ1 := μ) (a := 10) (as := [.int x1]) (st := []) ok_X7_isHorse vi_X7_isHorse ml_7_128 hcl_7 kd_10 dX7_stand_2 rfl rfl (Nat.le_of_ble_eq_true rfl) (Nat.le_of_ble_eq_true rfl) (by decide) (ct_X7_isHorse (x1) μ) ?_
  refine ev_ifne_bi (tgt := 11) dX7_stand_5 rfl (fun c1 => ?_) (fun c1 => ?_)
  · have h2 := h.1 c1
    refine ev_iload_n dX7_stand_11 2 rfl ?_
    refine ev_iconst (v := 0) dX7_stand_12 rfl ?_
    refine ev_sipush (v := 999) dX7_stand_13 rfl ?_
    refine e2_callS (w := .int (bi (inB x2 (0 : Int32) (999 : Int32)))) (μ1 := μ) (as := [.int x2, .int 0, .int 999]) (st := []) ok_X7_isWithin sv_X7_isWithin ml_7_86 dX7_stand_16 rfl rfl (Nat.le_of_ble_eq_true rfl) (Nat.le_of_ble_eq_true rfl) (by decide) (ct_X7_isWithin (x2) (0) (999) μ) ?_
    refine ev_ifne_bi (tgt := 25) dX7_stand_19 rfl (fun c4 => ?_) (fun c4 => ?_)
    · have h5 := h2.1 c4
      refine ev_aload_n dX7_stand_25 0 rfl (by decide) ?_
      refine ev_getR' fl_7_16 rfl kd_10 rf_10_1 dX7_stand_26 ?_
      refine ev_iload_n dX7_stand_29 1 rfl ?_
      have p7 := h5.1
      have h8 := h5.2
      refine ev_aaload' (k := 5) kd_19 (by omega) ln_19 p7 (raH p7) dX7_stand_30 ?_
      refine ev_getI' (v := (μ (43 + x1.toNatClampNeg) 5)) fl_7_148 rfl (kdHo (isH p7)) rfl dX7_stand_31 ?_
      refine ev_top (fun y9 ey9 => ?_)
      have h10 := h8 y9 ey9
      refine ev_istore_n (lv' := [(0, .ref 10), (1, .int x1), (2, .int x2), (3, .int y9)]) dX7_stand_34 (by decide) [1, 2, 3, 0] rfl ?_
      refine ev_aload_n dX7_stand_35 0 rfl (by decide) ?_
      refine ev_getR' fl_7_16 rfl kd_10 rf_10_1 dX7_stand_36 ?_
      refine ev_iload_n dX7_stand_39 1 rfl ?_
      have p11 := h10.1
      have h12 := h10.2
      refine ev_aaload' (k := 5) kd_19 (by omega) ln_19 p11 (raH p11) dX7_stand_40 ?_
      refine ev_iload_n dX7_stand_41 2 rfl ?_
      refine ev_putI fl_7_148 ⟨rfl, rfl, rfl⟩ (fun r hr => by cases hr; rfl) (kdHo (isH p11)) dX7_stand_42 ?_
      refine ev_aload_n dX7_stand_45 0 rfl (by decide) ?_
      refine ev_aload_n dX7_stand_46 0 rfl (by decide) ?_
      refine ev_getR' fl_7_16 rfl kd_10 rf_10_1 dX7_stand_47 ?_
      refine ev_iload_n dX7_stand_50 1 rfl ?_
      have p13 := h12.1
      have h14 := h12.2
      refine ev_aaload' (k := 5) kd_19 (by omega) ln_19 p13 (raH p13) dX7_stand_51 ?_
      have p15 := h14.1
      have h16 := h14.2
      refine e2_callVrv (Rl := fun μ17 => hearR (mset μ (43 + x1.toNatClampNeg) 5 x2) (43 + x1.toNatClampNeg) μ17) (a := 10) (as := [.ref (43 + x1.toNatClampNeg)]) (st := []) ok_X7_hearLaw vi_X7_hearLaw ml_7_144 hcl_7 kd_10 dX7_stand_52 rfl rfl (Nat.le_of_ble_eq_true rfl) (Nat.le_of_ble_eq_true rfl) (by decide) (ct_X7_hearLaw (43 + x1.toNatClampNeg) (isH p13) (mset μ (43 + x1.toNatClampNeg) 5 x2) p15) (fun μ17 r18 => ?_)
      have h19 := h16 μ17 r18
      refine ev_iload_n dX7_stand_55 3 rfl ?_
      exact ev_ireturn dX7_stand_56 rfl True.intro rfl rfl ⟨rfl, h19⟩
    · have h6 := h2.2 c4
      refine ev_bipush (v := (-7)) dX7_stand_22 rfl ?_
      exact ev_ireturn dX7_stand_24 rfl True.intro rfl rfl ⟨rfl, h6⟩
  · have h3 := h.2 c1
    refine ev_bipush (v := (-5)) dX7_stand_8 rfl ?_
    exact ev_ireturn dX7_stand_10 rfl True.intro rfl rfl ⟨rfl, h3⟩
theorem pb_X7_stand {G : GW} {α μ : Mem} (hf : WF α) (h : VX α μ) (x1 x2 : Int32) : pubX G mX7_stand 5 [(0, .ref 10), (1, .int x1), (2, .int x2)] α μ (.int (sp_stand α x1 x2)) (sq_stand α x1 x2) := by
  have hk := keepM.rf μ
  have cN : μ 10 9 = α 0 0 := h.1.1.1
  have hf' := wf_stand hf x1 x2
  refine sg_X7_stand_0 ⟨fun c => ⟨fun d => ?_, fun d => ?_⟩, fun c => ?_⟩
  · rw [cN] at c
    obtain ⟨v, vi, ve⟩ := VX.vH hf h.1 c
    have e1 : sp_stand α x1 x2 = α 9 x1.toNatClampNeg := by unfold sp_stand; rw [if_pos c, if_pos d]
    have e2 : sq_stand α x1 x2 = readyA α x1.toNatClampNeg x2 := by unfold sq_stand; rw [if_pos ⟨c, d⟩]
    rw [e2] at hf'
    rw [e1, e2]
    refine ⟨v, fun y hy => ⟨v, v, ?_⟩⟩
    have q := one_heard hf h (i := x1.toNatClampNeg) vi hf' (μ1 := mset μ (43 + x1.toNatClampNeg) 5 x2) (fun r hr => mset_ne (by omega)) (fun r j hj => mset_other (by omega)) (fun a ha => mset_ne ha) (by
      intro f hf6
      by_cases c5 : f = 5
      · subst c5
        rw [mset_same]
        exact mset_same.symm
      · have : readyA α x1.toNatClampNeg x2 (4 + f) = α (4 + f) := mset_ne (by omega)
        rw [mset_other (by omega), this]
        exact h.1.2.2.2.1 _ vi f hf6)
    refine ⟨q.1, fun ν hν => ⟨?_, (q.2 ν hν).1, (q.2 ν hν).2⟩⟩
    rw [hy]
    exact congrArg (fun z => some (Value.int z)) (h.1.2.2.2.1 _ vi 5 (by omega))
  · rw [cN] at c
    unfold sp_stand sq_stand
    rw [if_pos c, if_neg (by rw [d]; decide), if_neg (by rw [d]; simp)]
    exact ⟨rfl, h, hk⟩
  · rw [cN] at c
    unfold sp_stand sq_stand
    rw [if_neg (by rw [c]; decide), if_neg (by rw [c]; simp)]
    exact ⟨rfl, h, hk⟩
/-! at -/
def atA (α : Mem) (p : Nat) : Nat → Int32
  | 0 => 0
  | h + 1 => if goA α h p = -1 then atA α p h else atA α p h ||| (1 <<< (nI h &&& 31))
def sp_at (α : Mem) (p : Int32) : Int32 := if inB p 0 6 = true then atA α p.toNatClampNeg (aN α) else -5
theorem goX_shown {α μ : Mem} (h : VX0 α μ) {i : Nat} (hi : i < aN α) (p : Int32) : goesF (μ (43 + i) 0) (μ (43 + i) 1) (μ (43 + i) 2) (μ (43 + i) 4) p = goesF (α 4 i) (α 5 i) (α 6 i) (α 8 i) p := by
  have q := h.2.2.2.1 i hi
  have f0 : μ (43 + i) 0 = α 4 i := q 0 (by omega)
  have f1 : μ (43 + i) 1 = α 5 i := q 1 (by omega)
  have f2 : μ (43 + i) 2 = α 6 i := q 2 (by omega)
  have f4 : μ (43 + i) 4 = α 8 i := q 4 (by omega)
  rw [f0, f1, f2, f4]
theorem sg_X7_at_0 {G : GW} {K : Option Value → Mem → Prop} {μ : Mem} {x1 : Int32}  (h : (((inB x1 0 6) = true) → Ev2 G mX7_at 3 14 [(0, .ref 10), (1, .int x1), (2, .int 0), (3, .int 0)] [] μ K) ∧ (((inB x1 0 6) = false) → K (some (.int (-5))) μ)) : Ev2 G mX7_at 3 0 [(0, .ref 10), (1, .int x1)] [] μ K := by
  refine ev_iload_n dX7_at_0 1 rfl ?_
  refine e2_callS (w := .int (bi (inB x1 0 6))) (μ1 := μ) (as := [.int x1]) (st := []) ok_X7_isPlace sv_X7_isPlace ml_7_94 dX7_at_1 rfl rfl (Nat.le_of_ble_eq_true rfl) (Nat.le_of_ble_eq_true rfl) (by decide) (ct_X7_isPlace (x1) μ) ?_
  refine ev_ifne_bi (tgt := 10) dX7_at_4 rfl (fun c1 => ?_) (fun c1 => ?_)
  · have h2 := h.1 c1
    refine ev_iconst (v := 0) dX7_at_10 rfl ?_
    refine ev_istore_n (lv' := [(0, .ref 10), (1, .int x1), (2, .int 0)]) dX7_at_11 (by decide) [1, 2, 0] rfl ?_
    refine ev_iconst (v := 0) dX7_at_12 rfl ?_
    refine ev_istore_n (lv' := [(0, .ref 10), (1, .int x1), (2, .int 0), (3, .int 0)]) dX7_at_13 (by decide) [1, 2, 3, 0] rfl ?_
    exact h2
  · have h3 := h.2 c1
    refine ev_bipush (v := (-5)) dX7_at_7 rfl ?_
    exact ev_ireturn dX7_at_9 rfl True.intro rfl rfl ⟨rfl, h3⟩
theorem sg_X7_at_14 {G : GW} {K : Option Value → Mem → Prop} {μ : Mem} {x1 x2 x3 : Int32}  (h : (((μ 10 9) ≤ x3) → K (some (.int x2)) μ) ∧ ((¬ ((μ 10 9) ≤ x3)) → (vp_in x3 7) ∧ (((goesF (μ (43 + x3.toNatClampNeg) 0) (μ (43 + x3.toNatClampNeg) 1) (μ (43 + x3.toNatClampNeg) 2) (μ (43 + x3.toNatClampNeg) 4) x1) = (-1)) → Ev2 G mX7_at 3 14 [(0, .ref 10), (1, .int x1), (2, .int x2), (3, .int (x3 + 1))] [] μ K) ∧ ((¬ ((goesF (μ (43 + x3.toNatClampNeg) 0) (μ (43 + x3.toNatClampNeg) 1) (μ (43 + x3.toNatClampNeg) 2) (μ (43 + x3.toNatClampNeg) 4) x1) = (-1))) → ∀ y9 : Int32, y9 = (x2 ||| ((1 : Int32) <<< (x3 &&& 31))) → Ev2 G mX7_at 3 14 [(0, .ref 10), (1, .int x1), (2, .int y9), (3, .int (x3 + 1))] [] μ K))) : Ev2 G mX7_at 3 14 [(0, .ref 10), (1, .int x1), (2, .int x2), (3, .int x3)] [] μ K := by
  refine ev_iload_n dX7_at_14 3 rfl ?_
  refine ev_aload_n dX7_at_15 0 rfl (by decide) ?_
  refine ev_getI' (v := (μ 10 9)) fl_7_60 rfl kd_10 rfl dX7_at_16 ?_
  refine ev_icmp_ge (tgt := 48) dX7_at_19 rfl (fun c1 => ?_) (fun c1 => ?_)
  · have h2 := h.1 c1
    refine ev_iload_n dX7_at_48 2 rfl ?_
    exact ev_ireturn dX7_at_49 rfl True.intro rfl rfl ⟨rfl, h2⟩
  · have h3 := h.2 c1
    refine ev_aload_n dX7_at_22 0 rfl (by decide) ?_
    refine ev_getR' fl_7_16 rfl kd_10 rf_10_1 dX7_at_23 ?_
    refine ev_iload_n dX7_at_26 3 rfl ?_
    have p4 := h3.1
    have h5 := h3.2
    refine ev_aaload' (k := 5) kd_19 (by omega) ln_19 p4 (raH p4) dX7_at_27 ?_
    refine ev_iload_n dX7_at_28 1 rfl ?_
    refine e2_callV (w := .int (goesF (μ (43 + x3.toNatClampNeg) 0) (μ (43 + x3.toNatClampNeg) 1) (μ (43 + x3.toNatClampNeg) 2) (μ (43 + x3.toNatClampNeg) 4) x1)) (μ1 := μ) (a := (43 + x3.toNatClampNeg)) (as := [.int x1]) (st := []) ok_X0_goesFrom vi_X0_goesFrom ml_7_173 hcl_0 (kdHo (isH p4)) dX7_at_29 rfl rfl (Nat.le_of_ble_eq_true rfl) (Nat.le_of_ble_eq_true rfl) (by decide) (ct_X0_goesFrom (43 + x3.toNatClampNeg) (isH p4) (x1) μ) ?_
    refine ev_iconst (v := (-1)) dX7_at_32 rfl ?_
    refine ev_icmp_eq (tgt := 42) dX7_at_33 rfl (fun c6 => ?_) (fun c6 => ?_)
    · have h7 := h5.1 c6
      refine ev_iinc (v := (x3 + 1)) (lv' := [(0, .ref 10), (1, .int x1), (2, .int x2), (3, .int (x3 + 1))]) dX7_at_42 3 rfl rfl (by decide) [1, 2, 3, 0] rfl ?_
      refine ev_goto (tgt := 14) dX7_at_45 rfl ?_
      exact h7
    · have h8 := h5.2 c6
      refine ev_iload_n dX7_at_36 2 rfl ?_
      refine ev_iconst (v := 1) dX7_at_37 rfl ?_
      refine ev_iload_n dX7_at_38 3 rfl ?_
      refine ev_ishl dX7_at_39 ?_
      refine ev_ior dX7_at_40 ?_
      refine ev_top (fun y9 ey9 => ?_)
      have h10 := h8 y9 ey9
      refine ev_istore_n (lv' := [(0, .ref 10), (1, .int x1), (2, .int y9), (3, .int x3)]) dX7_at_41 (by decide) [1, 2, 0, 3] rfl ?_
      refine ev_iinc (v := (x3 + 1)) (lv' := [(0, .ref 10), (1, .int x1), (2, .int y9), (3, .int (x3 + 1))]) dX7_at_42 3 rfl rfl (by decide) [1, 2, 3, 0] rfl ?_
      refine ev_goto (tgt := 14) dX7_at_45 rfl ?_
      exact h10
theorem lp_X7_at {G : GW} {α μ : Mem} (hf : WF α) (h : VX α μ) {p : Nat} (hp : p < 7) : ∀ j i, i + j = aN α → Ev2 G mX7_at 3 14 [(0, .ref 10), (1, .int (nI p)), (2, .int (atA α p i)), (3, .int (nI i))] [] μ (fun v μ' => v = some (.int (atA α p (aN α))) ∧ VX α μ' ∧ keepM μ μ') := by
  have cN : μ 10 9 = nI (aN α) := h.1.1.1.trans hf.1.1.1
  have hn7 := hf.1.1.2
  intro j
  induction j with
  | zero =>
    intro i hi
    obtain rfl : i = aN α := by omega
    refine sg_X7_at_14 ⟨fun _ => ⟨rfl, h, keepM.rf μ⟩, fun c => ?_⟩
    rw [cN] at c
    exact absurd (nI_le (Nat.le_refl _) (by omega)) c
  | succ j ih =>
    intro i hi
    have hh := ih (i + 1) (by omega)
    rw [← nI_1] at hh
    have ep : atA α p (i + 1) = if goA α i p = -1 then atA α p i else atA α p i ||| (1 <<< (nI i &&& 31)) := rfl
    rw [ep] at hh
    refine sg_X7_at_14 ⟨fun c => ?_, fun _ => ⟨vp_nI (by omega) (by omega), ?_⟩⟩
    · rw [cN] at c
      exact absurd c (nI_ge (by omega) (by omega))
    · rw [ix_nI (by omega), goX_shown h.1 (by omega)]
      refine ⟨fun c => ?_, fun c y hy => ?_⟩
      · have c : goA α i p = -1 := c
        rw [if_pos c] at hh
        exact hh
      · have c : ¬ goA α i p = -1 := c
        rw [if_neg c] at hh
        rw [hy]
        exact hh
theorem pb_X7_at {G : GW} {α μ : Mem} (hf : WF α) (h : VX α μ) (x1 : Int32) : pubX G mX7_at 3 [(0, .ref 10), (1, .int x1)] α μ (.int (sp_at α x1)) α := by
  refine sg_X7_at_0 ⟨fun c => ?_, fun c => ?_⟩
  · unfold sp_at
    rw [if_pos c]
    obtain ⟨p, hp, rfl⟩ := inB_nI (m := 6) (by omega) c
    rw [ix_nI (by omega)]
    exact lp_X7_at hf h (by omega) (aN α) 0 (by omega)
  · unfold sp_at
    rw [if_neg (by rw [c]; decide)]
    exact ⟨rfl, h, keepM.rf μ⟩
/-! all, worth -/
theorem VX.Q' {α μ ν : Mem} (h : VX α μ) (hf : WF α) (hq : sameQ μ ν) : VX α ν ∧ keepM μ ν := ⟨h.Q hf hq, keepM.of_sameQ hq⟩
theorem ready_of {α μ : Mem} {set : Int32} (hf : WF α) (h : VX α μ) (hs : setOK (aN α) set) : ridOK μ ∧ goOK (goX μ) set := ⟨h.ridOK hf, h.go hf hs⟩
def sp_all (α : Mem) : Int32 := ridA α (allA α)
theorem sg_X7_all_0 {G : GW} {K : Option Value → Mem → Prop} {μ : Mem}   (h : (ridOK μ ∧ goOK (goX μ) ((((1 : Int32) <<< (μ 10 9 &&& 31)) - 1))) ∧ ∀ (z3 : Int32) (μ4 : Mem), (z3 = riddenX μ ((((1 : Int32) <<< (μ 10 9 &&& 31)) - 1)) ∧ sameQ μ μ4) → K (some (.int z3)) μ4) : Ev2 G mX7_all 8 0 [(0, .ref 10)] [] μ K := by
  refine ev_aload_n dX7_all_0 0 rfl (by decide) ?_
  refine ev_aload_n dX7_all_1 0 rfl (by decide) ?_
  refine e2_callV (w := .int ((((1 : Int32) <<< (μ 10 9 &&& 31)) - 1))) (μ1 := μ) (a := 10) (as := []) (st := [.ref 10]) ok_X7_allHorses vi_X7_allHorses ml_7_176 hcl_7 kd_10 dX7_all_2 rfl rfl (Nat.le_of_ble_eq_true rfl) (Nat.le_of_ble_eq_true rfl) (by decide) (ct_X7_allHorses μ) ?_
  have p1 := h.1
  have h2 := h.2
  refine e2_callVr (Rl := fun z3 μ4 => z3 = riddenX μ ((((1 : Int32) <<< (μ 10 9 &&& 31)) - 1)) ∧ sameQ μ μ4) (a := 10) (as := [.int ((((1 : Int32) <<< (μ 10 9 &&& 31)) - 1))]) (st := []) ok_X7_ridden vi_X7_ridden ml_7_206 hcl_7 kd_10 dX7_all_5 rfl rfl (Nat.le_of_ble_eq_true rfl) (Nat.le_of_ble_eq_true rfl) (by decide) (ct_X7_ridden (((((1 : Int32) <<< (μ 10 9 &&& 31)) - 1))) μ p1) (fun z3 μ4 r5 => ?_)
  have h6 := h2 z3 μ4 r5
  exact ev_ireturn dX7_all_8 rfl True.intro rfl rfl ⟨rfl, h6⟩
theorem pb_X7_all {G : GW} {α μ : Mem} (hf : WF α) (h : VX α μ) : pubX G mX7_all 8 [(0, .ref 10)] α μ (.int (sp_all α)) α := by
  refine sg_X7_all_0 ?_
  rw [VX.all h.1]
  refine ⟨ready_of hf h (allA_ok hf.1), fun x ν hx => ?_⟩
  obtain ⟨hx, hs⟩ := hx
  obtain ⟨h1, h2⟩ := h.Q' hf hs
  exact ⟨by rw [hx, h.rid (allA_ok hf.1)]; rfl, h1, h2⟩
def sp_worth (α : Mem) (x : Int32) : Int32 := if inB x 0 (α 0 0 - 1) = true then ridA α (allA α &&& ((1 <<< (x &&& 31)) ^^^ (-1))) - ridA α (allA α) else -5
theorem sg_X7_worth_0 {G : GW} {K : Option Value → Mem → Prop} {μ : Mem} {x1 : Int32}  (h : (((inB x1 0 (μ 10 9 - 1)) = false) → K (some (.int (-5))) μ) ∧ (((inB x1 0 (μ 10 9 - 1)) = true) → (ridOK μ ∧ goOK (goX μ) (((((1 : Int32) <<< (μ 10 9 &&& 31)) - 1)) &&& (((1 : Int32) <<< (x1 &&& 31)) ^^^ (-1)))) ∧ ∀ (z6 : Int32) (μ7 : Mem), (z6 = riddenX μ (((((1 : Int32) <<< (μ 10 9 &&& 31)) - 1)) &&& (((1 : Int32) <<< (x1 &&& 31)) ^^^ (-1))) ∧ sameQ μ μ7) → (ridOK μ7 ∧ goOK (goX μ7) ((((1 : Int32) <<< (μ7 10 9 &&& 31)) - 1))) ∧ ∀ (z12 : Int32) (μ13 : Mem), (z12 = riddenX μ7 ((((1 : Int32) <<< (μ7 10 9 &&& 31)) - 1)) ∧ sameQ μ7 μ13) → K (some (.int (z6 - z12))) μ13)) : Ev2 G mX7_worth 8 0 [(0, .ref 10), (1, .int x1)] [] μ K := by
  refine ev_aload_n dX7_worth_0 0 rfl (by decide) ?_
  refine ev_iload_n dX7_worth_1 1 rfl ?_
  refine e2_callV (w := .int (bi (inB x1 0 (μ 10 9 - 1)))) (μ1 := μ) (a := 10) (as := [.int x1]) (st := []) ok_X7_isHorse vi_X7_isHorse ml_7_128 hcl_7 kd_10 dX7_worth_2 rfl rfl (Nat.le_of_ble_eq_true rfl) (Nat.le_of_ble_eq_true rfl) (by decide) (ct_X7_isHorse (x1) μ) ?_
  refine ev_ifeq_bi (tgt := 34) dX7_worth_5 rfl (fun c1 => ?_) (fun c1 => ?_)
  · have h2 := h.1 c1
    refine ev_bipush (v := (-5)) dX7_worth_34 rfl ?_
    exact ev_ireturn dX7_worth_36 rfl True.intro rfl rfl ⟨rfl, h2⟩
  · have h3 := h.2 c1
    refine ev_aload_n dX7_worth_8 0 rfl (by decide) ?_
    refine ev_aload_n dX7_worth_9 0 rfl (by decide) ?_
    refine e2_callV (w := .int ((((1 : Int32) <<< (μ 10 9 &&& 31)) - 1))) (μ1 := μ) (a := 10) (as := []) (st := [.ref 10]) ok_X7_allHorses vi_X7_allHorses ml_7_176 hcl_7 kd_10 dX7_worth_10 rfl rfl (Nat.le_of_ble_eq_true rfl) (Nat.le_of_ble_eq_true rfl) (by decide) (ct_X7_allHorses μ) ?_
    refine ev_iconst (v := 1) dX7_worth_13 rfl ?_
    refine ev_iload_n dX7_worth_14 1 rfl ?_
    refine ev_ishl dX7_worth_15 ?_
    refine ev_iconst (v := (-1)) dX7_worth_16 rfl ?_
    refine ev_ixor dX7_worth_17 ?_
    refine ev_iand dX7_worth_18 ?_
    have p4 := h3.1
    have h5 := h3.2
    refine e2_callVr (Rl := fun z6 μ7 => z6 = riddenX μ (((((1 : Int32) <<< (μ 10 9 &&& 31)) - 1)) &&& (((1 : Int32) <<< (x1 &&& 31)) ^^^ (-1))) ∧ sameQ μ μ7) (a := 10) (as := [.int (((((1 : Int32) <<< (μ 10 9 &&& 31)) - 1)) &&& (((1 : Int32) <<< (x1 &&& 31)) ^^^ (-1)))]) (st := []) ok_X7_ridden vi_X7_ridden ml_7_206 hcl_7 kd_10 dX7_worth_19 rfl rfl (Nat.le_of_ble_eq_true rfl) (Nat.le_of_ble_eq_true rfl) (by decide) (ct_X7_ridden ((((((1 : Int32) <<< (μ 10 9 &&& 31)) - 1)) &&& (((1 : Int32) <<< (x1 &&& 31)) ^^^ (-1)))) μ p4) (fun z6 μ7 r8 => ?_)
    have h9 := h5 z6 μ7 r8
    refine ev_aload_n dX7_worth_22 0 rfl (by decide) ?_
    refine ev_aload_n dX7_worth_23 0 rfl (by decide) ?_
    refine e2_callV (w := .int ((((1 : Int32) <<< (μ7 10 9 &&& 31)) - 1))) (μ1 := μ7) (a := 10) (as := []) (st := [.ref 10, .int z6]) ok_X7_allHorses vi_X7_allHorses ml_7_176 hcl_7 kd_10 dX7_worth_24 rfl rfl (Nat.le_of_ble_eq_true rfl) (Nat.le_of_ble_eq_true rfl) (by decide) (ct_X7_allHorses μ7) ?_
    have p10 := h9.1
    have h11 := h9.2
    refine e2_callVr (Rl := fun z12 μ13 => z12 = riddenX μ7 ((((1 : Int32) <<< (μ7 10 9 &&& 31)) - 1)) ∧ sameQ μ7 μ13) (a := 10) (as := [.int ((((1 : Int32) <<< (μ7 10 9 &&& 31)) - 1))]) (st := [.int z6]) ok_X7_ridden vi_X7_ridden ml_7_206 hcl_7 kd_10 dX7_worth_27 rfl rfl (Nat.le_of_ble_eq_true rfl) (Nat.le_of_ble_eq_true rfl) (by decide) (ct_X7_ridden (((((1 : Int32) <<< (μ7 10 9 &&& 31)) - 1))) μ7 p10) (fun z12 μ13 r14 => ?_)
    have h15 := h11 z12 μ13 r14
    refine ev_isub dX7_worth_30 ?_
    refine ev_goto (tgt := 36) dX7_worth_31 rfl ?_
    exact ev_ireturn dX7_worth_36 rfl True.intro rfl rfl ⟨rfl, h15⟩
theorem pb_X7_worth {G : GW} {α μ : Mem} (hf : WF α) (h : VX α μ) (x1 : Int32) : pubX G mX7_worth 8 [(0, .ref 10), (1, .int x1)] α μ (.int (sp_worth α x1)) α := by
  have cN : μ 10 9 = α 0 0 := h.1.1.1
  refine sg_X7_worth_0 ⟨fun c => ?_, fun c => ?_⟩
  · rw [cN] at c
    unfold sp_worth
    rw [if_neg (by rw [c]; decide)]
    exact ⟨rfl, h, keepM.rf μ⟩
  · rw [cN] at c
    unfold sp_worth
    rw [if_pos c, VX.all h.1]
    have hs1 := setOK_and (allA_ok hf.1) ((1 <<< (x1 &&& 31)) ^^^ (-1))
    refine ⟨ready_of hf h hs1, fun x ν hx => ?_⟩
    obtain ⟨hx, hs⟩ := hx
    obtain ⟨h1, h2⟩ := h.Q' hf hs
    rw [VX.all h1.1]
    refine ⟨ready_of hf h1 (allA_ok hf.1), fun y ξ hy => ?_⟩
    obtain ⟨hy, hs'⟩ := hy
    obtain ⟨h3, h4⟩ := h1.Q' hf hs'
    exact ⟨by rw [hx, hy, h.rid hs1, h1.rid (allA_ok hf.1)], h3, h2.tr h4⟩
/-! taken -/
def sp_taken (α : Mem) (i kind : Int32) : Int32 := if inB kind 0 6 = true then (if inB i 0 10 = true then (if 4 ≤ i then (if inB (i - 4) 0 (α 0 0 - 1) = true then (if kind = 6 then -13 else if isOneF 6 (α 4 (i - 4).toNatClampNeg) kind = true then i - 4 else -13) else -11) else if inB i 0 (α 0 1 - 1) = true then (if kind = 6 then 10 * α 2 i.toNatClampNeg + α 3 i.toNatClampNeg else -13) else -11) else -12) else -2
theorem sg_X7_taken_0 {G : GW} {K : Option Value → Mem → Prop} {μ : Mem} {x1 x2 : Int32}  (h : (((inB x2 (0 : Int32) (6 : Int32)) = true) → (((inB x1 (0 : Int32) (10 : Int32)) = true) → ((¬ x2 = 6) → ((4 ≤ x1) → (((inB (x1 - 4) 0 (μ 10 9 - 1)) = true) → ((¬ (0 : Int32) = 0) → K (some (.int (-13))) μ) ∧ (((0 : Int32) = 0) → (vp_in (x1 - 4) 7) ∧ (((isOneF 6 (μ (43 + (x1 - 4).toNatClampNeg) 0) x2) = false) → K (some (.int (-13))) μ) ∧ (((isOneF 6 (μ (43 + (x1 - 4).toNatClampNeg) 0) x2) = true) → K (some (.int (x1 - 4))) μ))) ∧ (((inB (x1 - 4) 0 (μ 10 9 - 1)) = false) → K (some (.int (-11))) μ)) ∧ ((¬ (4 ≤ x1)) → (((inB x1 0 (μ 10 10 - 1)) = true) → (((0 : Int32) = 0) → K (some (.int (-13))) μ) ∧ ((¬ ((0 : Int32) = 0)) → (vp_in x1 4) ∧ (vp_in x1 4) ∧ K (some (.int ((10 * (μ 20 x1.toNatClampNeg)) + (μ 21 x1.toNatClampNeg)))) μ)) ∧ (((inB x1 0 (μ 10 10 - 1)) = false) → K (some (.int (-11))) μ))) ∧ ((x2 = 6) → ((4 ≤ x1) → (((inB (x1 - 4) 0 (μ 10 9 - 1)) = true) → ((¬ (1 : Int32) = 0) → K (some (.int (-13))) μ) ∧ (((1 : Int32) = 0) → (vp_in (x1 - 4) 7) ∧ (((isOneF 6 (μ (43 + (x1 - 4).toNatClampNeg) 0) x2) = false) → K (some (.int (-13))) μ) ∧ (((isOneF 6 (μ (43 + (x1 - 4).toNatClampNeg) 0) x2) = true) → K (some (.int (x1 - 4))) μ))) ∧ (((inB (x1 - 4) 0 (μ 10 9 - 1)) = false) → K (some (.int (-11))) μ)) ∧ ((¬ (4 ≤ x1)) → (((inB x1 0 (μ 10 10 - 1)) = true) → (((1 : Int32) = 0) → K (some (.int (-13))) μ) ∧ ((¬ ((1 : Int32) = 0)) → (vp_in x1 4) ∧ (vp_in x1 4) ∧ K (some (.int ((10 * (μ 20 x1.toNatClampNeg)) + (μ 21 x1.toNatClampNeg)))) μ)) ∧ (((inB x1 0 (μ 10 10 - 1)) = false) → K (some (.int (-11))) μ)))) ∧ (((inB x1 (0 : Int32) (10 : Int32)) = false) → K (some (.int (-12))) μ)) ∧ (((inB x2 (0 : Int32) (6 : Int32)) = false) → K (some (.int (-2))) μ)) : Ev2 G mX7_taken 3 0 [(0, .ref 10), (1, .int x1), (2, .int x2)] [] μ K := by
  refine ev_iload_n dX7_taken_0 2 rfl ?_
  refine ev_iconst (v := 0) dX7_taken_1 rfl ?_
  refine ev_bipush (v := 6) dX7_taken_2 rfl ?_
  refine e2_callS (w := .int (bi (inB x2 (0 : Int32) (6 : Int32)))) (μ1 := μ) (as := [.int x2, .int 0, .int 6]) (st := []) ok_X7_isWithin sv_X7_isWithin ml_7_86 dX7_taken_4 rfl rfl (Nat.le_of_ble_eq_true rfl) (Nat.le_of_ble_eq_true rfl) (by decide) (ct_X7_isWithin (x2) (0) (6) μ) ?_
  refine ev_ifne_bi (tgt := 13) dX7_taken_7 rfl (fun c1 => ?_) (fun c1 => ?_)
  · have h2 := h.1 c1
    refine ev_iload_n dX7_taken_13 1 rfl ?_
    refine ev_iconst (v := 0) dX7_taken_14 rfl ?_
    refine ev_bipush (v := 10) dX7_taken_15 rfl ?_
    refine e2_callS (w := .int (bi (inB x1 (0 : Int32) (10 : Int32)))) (μ1 := μ) (as := [.int x1, .int 0, .int 10]) (st := []) ok_X7_isWithin sv_X7_isWithin ml_7_86 dX7_taken_17 rfl rfl (Nat.le_of_ble_eq_true rfl) (Nat.le_of_ble_eq_true rfl) (by decide) (ct_X7_isWithin (x1) (0) (10) μ) ?_
    refine ev_ifne_bi (tgt := 26) dX7_taken_20 rfl (fun c4 => ?_) (fun c4 => ?_)
    · have h5 := h2.1 c4
      refine ev_iload_n dX7_taken_26 2 rfl ?_
      refine ev_bipush (v := 6) dX7_taken_27 rfl ?_
      refine ev_icmp_ne (tgt := 36) dX7_taken_29 rfl (fun c7 => ?_) (fun c7 => ?_)
      · have h8 := h5.1 c7
        refine ev_iconst (v := 0) dX7_taken_36 rfl ?_
        refine ev_istore_n (lv' := [(0, .ref 10), (1, .int x1), (2, .int x2), (3, .int 0)]) dX7_taken_37 (by decide) [1, 2, 3, 0] rfl ?_
        refine ev_iload_n dX7_taken_38 1 rfl ?_
        refine ev_iconst (v := 4) dX7_taken_39 rfl ?_
        refine ev_icmp_ge (tgt := 80) dX7_taken_40 rfl (fun c10 => ?_) (fun c10 => ?_)
        · have h11 := h8.1 c10
          refine ev_iload_n dX7_taken_80 1 rfl ?_
          refine ev_iconst (v := 4) dX7_taken_81 rfl ?_
          refine ev_isub dX7_taken_82 ?_
          refine ev_istore (lv' := [(0, .ref 10), (1, .int x1), (2, .int x2), (3, .int 0), (4, .int (x1 - 4))]) dX7_taken_83 (by decide) [1, 2, 3, 4, 0] rfl ?_
          refine ev_aload_n dX7_taken_85 0 rfl (by decide) ?_
          refine ev_iload dX7_taken_86 4 rfl ?_
          refine e2_callV (w := .int (bi (inB (x1 - 4) 0 (μ 10 9 - 1)))) (μ1 := μ) (a := 10) (as := [.int (x1 - 4)]) (st := []) ok_X7_isHorse vi_X7_isHorse ml_7_128 hcl_7 kd_10 dX7_taken_88 rfl rfl (Nat.le_of_ble_eq_true rfl) (Nat.le_of_ble_eq_true rfl) (by decide) (ct_X7_isHorse ((x1 - 4)) μ) ?_
          refine ev_ifne_bi (tgt := 97) dX7_taken_91 rfl (fun c13 => ?_) (fun c13 => ?_)
          · have h14 := h11.1 c13
            refine ev_iload_n dX7_taken_97 3 rfl ?_
            refine ev_if_ne (tgt := 120) dX7_taken_98 rfl (fun c16 => ?_) (fun c16 => ?_)
            · have h17 := h14.1 c16
              refine ev_bipush (v := (-13)) dX7_taken_120 rfl ?_
              exact ev_ireturn dX7_taken_122 rfl True.intro rfl rfl ⟨rfl, h17⟩
            · have h18 := h14.2 c16
              refine ev_aload_n dX7_taken_101 0 rfl (by decide) ?_
              refine ev_getR' fl_7_16 rfl kd_10 rf_10_1 dX7_taken_102 ?_
              refine ev_iload dX7_taken_105 4 rfl ?_
              have p19 := h18.1
              have h20 := h18.2
              refine ev_aaload' (k := 5) kd_19 (by omega) ln_19 p19 (raH p19) dX7_taken_107 ?_
              refine ev_iload_n dX7_taken_108 2 rfl ?_
              refine e2_callV (w := .int (bi (isOneF 6 (μ (43 + (x1 - 4).toNatClampNeg) 0) x2))) (μ1 := μ) (a := (43 + (x1 - 4).toNatClampNeg)) (as := [.int x2]) (st := []) ok_X0_isOne vi_X0_isOne ml_7_302 hcl_0 (kdHo (isH p19)) dX7_taken_109 rfl rfl (Nat.le_of_ble_eq_true rfl) (Nat.le_of_ble_eq_true rfl) (by decide) (ct_X0_isOne (43 + (x1 - 4).toNatClampNeg) (isH p19) (x2) μ) ?_
              refine ev_ifeq_bi (tgt := 120) dX7_taken_112 rfl (fun c21 => ?_) (fun c21 => ?_)
              · have h22 := h20.1 c21
                refine ev_bipush (v := (-13)) dX7_taken_120 rfl ?_
                exact ev_ireturn dX7_taken_122 rfl True.intro rfl rfl ⟨rfl, h22⟩
              · have h23 := h20.2 c21
                refine ev_iload dX7_taken_115 4 rfl ?_
                refine ev_goto (tgt := 122) dX7_taken_117 rfl ?_
                exact ev_ireturn dX7_taken_122 rfl True.intro rfl rfl ⟨rfl, h23⟩
          · have h15 := h11.2 c13
            refine ev_bipush (v := (-11)) dX7_taken_94 rfl ?_
            exact ev_ireturn dX7_taken_96 rfl True.intro rfl rfl ⟨rfl, h15⟩
        · have h12 := h8.2 c10
          refine ev_aload_n dX7_taken_43 0 rfl (by decide) ?_
          refine ev_iload_n dX7_taken_44 1 rfl ?_
          refine e2_callV (w := .int (bi (inB x1 0 (μ 10 10 - 1)))) (μ1 := μ) (a := 10) (as := [.int x1]) (st := []) ok_X7_isRide vi_X7_isRide ml_7_98 hcl_7 kd_10 dX7_taken_45 rfl rfl (Nat.le_of_ble_eq_true rfl) (Nat.le_of_ble_eq_true rfl) (by decide) (ct_X7_isRide (x1) μ) ?_
          refine ev_ifne_bi (tgt := 54) dX7_taken_48 rfl (fun c24 => ?_) (fun c24 => ?_)
          · have h25 := h12.1 c24
            refine ev_iload_n dX7_taken_54 3 rfl ?_
            refine ev_if_eq (tgt := 77) dX7_taken_55 rfl (fun c27 => ?_) (fun c27 => ?_)
            · have h28 := h25.1 c27
              refine ev_bipush (v := (-13)) dX7_taken_77 rfl ?_
              exact ev_ireturn dX7_taken_79 rfl True.intro rfl rfl ⟨rfl, h28⟩
            · have h29 := h25.2 c27
              refine ev_bipush (v := 10) dX7_taken_58 rfl ?_
              refine ev_aload_n dX7_taken_60 0 rfl (by decide) ?_
              refine ev_getR' fl_7_20 rfl kd_10 rf_10_2 dX7_taken_61 ?_
              refine ev_iload_n dX7_taken_64 1 rfl ?_
              have p30 := h29.1
              have h31 := h29.2
              refine ev_iaload' (v := (μ 20 x1.toNatClampNeg)) kd_20 ln_20 p30 rfl dX7_taken_65 ?_
              refine ev_imul dX7_taken_66 ?_
              refine ev_aload_n dX7_taken_67 0 rfl (by decide) ?_
              refine ev_getR' fl_7_24 rfl kd_10 rf_10_3 dX7_taken_68 ?_
              refine ev_iload_n dX7_taken_71 1 rfl ?_
              have p32 := h31.1
              have h33 := h31.2
              refine ev_iaload' (v := (μ 21 x1.toNatClampNeg)) kd_21 ln_21 p32 rfl dX7_taken_72 ?_
              refine ev_iadd dX7_taken_73 ?_
              refine ev_goto (tgt := 79) dX7_taken_74 rfl ?_
              exact ev_ireturn dX7_taken_79 rfl True.intro rfl rfl ⟨rfl, h33⟩
          · have h26 := h12.2 c24
            refine ev_bipush (v := (-11)) dX7_taken_51 rfl ?_
            exact ev_ireturn dX7_taken_53 rfl True.intro rfl rfl ⟨rfl, h26⟩
      · have h9 := h5.2 c7
        refine ev_iconst (v := 1) dX7_taken_32 rfl ?_
        refine ev_goto (tgt := 37) dX7_taken_33 rfl ?_
        refine ev_istore_n (lv' := [(0, .ref 10), (1, .int x1), (2, .int x2), (3, .int 1)]) dX7_taken_37 (by decide) [1, 2, 3, 0] rfl ?_
        refine ev_iload_n dX7_taken_38 1 rfl ?_
        refine ev_iconst (v := 4) dX7_taken_39 rfl ?_
        refine ev_icmp_ge (tgt := 80) dX7_taken_40 rfl (fun c34 => ?_) (fun c34 => ?_)
        · have h35 := h9.1 c34
          refine ev_iload_n dX7_taken_80 1 rfl ?_
          refine ev_iconst (v := 4) dX7_taken_81 rfl ?_
          refine ev_isub dX7_taken_82 ?_
          refine ev_istore (lv' := [(0, .ref 10), (1, .int x1), (2, .int x2), (3, .int 1), (4, .int (x1 - 4))]) dX7_taken_83 (by decide) [1, 2, 3, 4, 0] rfl ?_
          refine ev_aload_n dX7_taken_85 0 rfl (by decide) ?_
          refine ev_iload dX7_taken_86 4 rfl ?_
          refine e2_callV (w := .int (bi (inB (x1 - 4) 0 (μ 10 9 - 1)))) (μ1 := μ) (a := 10) (as := [.int (x1 - 4)]) (st := []) ok_X7_isHorse vi_X7_isHorse ml_7_128 hcl_7 kd_10 dX7_taken_88 rfl rfl (Nat.le_of_ble_eq_true rfl) (Nat.le_of_ble_eq_true rfl) (by decide) (ct_X7_isHorse ((x1 - 4)) μ) ?_
          refine ev_ifne_bi (tgt := 97) dX7_taken_91 rfl (fun c37 => ?_) (fun c37 => ?_)
          · have h38 := h35.1 c37
            refine ev_iload_n dX7_taken_97 3 rfl ?_
            refine ev_if_ne (tgt := 120) dX7_taken_98 rfl (fun c40 => ?_) (fun c40 => ?_)
            · have h41 := h38.1 c40
              refine ev_bipush (v := (-13)) dX7_taken_120 rfl ?_
              exact ev_ireturn dX7_taken_122 rfl True.intro rfl rfl ⟨rfl, h41⟩
            · have h42 := h38.2 c40
              refine ev_aload_n dX7_taken_101 0 rfl (by decide) ?_
              refine ev_getR' fl_7_16 rfl kd_10 rf_10_1 dX7_taken_102 ?_
              refine ev_iload dX7_taken_105 4 rfl ?_
              have p43 := h42.1
              have h44 := h42.2
              refine ev_aaload' (k := 5) kd_19 (by omega) ln_19 p43 (raH p43) dX7_taken_107 ?_
              refine ev_iload_n dX7_taken_108 2 rfl ?_
              refine e2_callV (w := .int (bi (isOneF 6 (μ (43 + (x1 - 4).toNatClampNeg) 0) x2))) (μ1 := μ) (a := (43 + (x1 - 4).toNatClampNeg)) (as := [.int x2]) (st := []) ok_X0_isOne vi_X0_isOne ml_7_302 hcl_0 (kdHo (isH p43)) dX7_taken_109 rfl rfl (Nat.le_of_ble_eq_true rfl) (Nat.le_of_ble_eq_true rfl) (by decide) (ct_X0_isOne (43 + (x1 - 4).toNatClampNeg) (isH p43) (x2) μ) ?_
              refine ev_ifeq_bi (tgt := 120) dX7_taken_112 rfl (fun c45 => ?_) (fun c45 => ?_)
              · have h46 := h44.1 c45
                refine ev_bipush (v := (-13)) dX7_taken_120 rfl ?_
                exact ev_ireturn dX7_taken_122 rfl True.intro rfl rfl ⟨rfl, h46⟩
              · have h47 := h44.2 c45
                refine ev_iload dX7_taken_115 4 rfl ?_
                refine ev_goto (tgt := 122) dX7_taken_117 rfl ?_
                exact ev_ireturn dX7_taken_122 rfl True.intro rfl rfl ⟨rfl, h47⟩
          · have h39 := h35.2 c37
            refine ev_bipush (v := (-11)) dX7_taken_94 rfl ?_
            exact ev_ireturn dX7_taken_96 rfl True.intro rfl rfl ⟨rfl, h39⟩
        · have h36 := h9.2 c34
          refine ev_aload_n dX7_taken_43 0 rfl (by decide) ?_
          refine ev_iload_n dX7_taken_44 1 rfl ?_
          refine e2_callV (w := .int (bi (inB x1 0 (μ 10 10 - 1)))) (μ1 := μ) (a := 10) (as := [.int x1]) (st := []) ok_X7_isRide vi_X7_isRide ml_7_98 hcl_7 kd_10 dX7_taken_45 rfl rfl (Nat.le_of_ble_eq_true rfl) (Nat.le_of_ble_eq_true rfl) (by decide) (ct_X7_isRide (x1) μ) ?_
          refine ev_ifne_bi (tgt := 54) dX7_taken_48 rfl (fun c48 => ?_) (fun c48 => ?_)
          · have h49 := h36.1 c48
            refine ev_iload_n dX7_taken_54 3 rfl ?_
            refine ev_if_eq (tgt := 77) dX7_taken_55 rfl (fun c51 => ?_) (fun c51 => ?_)
            · have h52 := h49.1 c51
              refine ev_bipush (v := (-13)) dX7_taken_77 rfl ?_
              exact ev_ireturn dX7_taken_79 rfl True.intro rfl rfl ⟨rfl, h52⟩
            · have h53 := h49.2 c51
              refine ev_bipush (v := 10) dX7_taken_58 rfl ?_
              refine ev_aload_n dX7_taken_60 0 rfl (by decide) ?_
              refine ev_getR' fl_7_20 rfl kd_10 rf_10_2 dX7_taken_61 ?_
              refine ev_iload_n dX7_taken_64 1 rfl ?_
              have p54 := h53.1
              have h55 := h53.2
              refine ev_iaload' (v := (μ 20 x1.toNatClampNeg)) kd_20 ln_20 p54 rfl dX7_taken_65 ?_
              refine ev_imul dX7_taken_66 ?_
              refine ev_aload_n dX7_taken_67 0 rfl (by decide) ?_
              refine ev_getR' fl_7_24 rfl kd_10 rf_10_3 dX7_taken_68 ?_
              refine ev_iload_n dX7_taken_71 1 rfl ?_
              have p56 := h55.1
              have h57 := h55.2
              refine ev_iaload' (v := (μ 21 x1.toNatClampNeg)) kd_21 ln_21 p56 rfl dX7_taken_72 ?_
              refine ev_iadd dX7_taken_73 ?_
              refine ev_goto (tgt := 79) dX7_taken_74 rfl ?_
              exact ev_ireturn dX7_taken_79 rfl True.intro rfl rfl ⟨rfl, h57⟩
          · have h50 := h36.2 c48
            refine ev_bipush (v := (-11)) dX7_taken_51 rfl ?_
            exact ev_ireturn dX7_taken_53 rfl True.intro rfl rfl ⟨rfl, h50⟩
    · have h6 := h2.2 c4
      refine ev_bipush (v := (-12)) dX7_taken_23 rfl ?_
      exact ev_ireturn dX7_taken_25 rfl True.intro rfl rfl ⟨rfl, h6⟩
  · have h3 := h.2 c1
    refine ev_bipush (v := (-2)) dX7_taken_10 rfl ?_
    exact ev_ireturn dX7_taken_12 rfl True.intro rfl rfl ⟨rfl, h3⟩
theorem pb_X7_taken {G : GW} {α μ : Mem} (hf : WF α) (h : VX α μ) (x1 x2 : Int32) : pubX G mX7_taken 3 [(0, .ref 10), (1, .int x1), (2, .int x2)] α μ (.int (sp_taken α x1 x2)) α := by
  have hk := keepM.rf μ
  have cN : μ 10 9 = α 0 0 := h.1.1.1
  have cR : μ 10 10 = α 0 1 := h.1.1.2.1
  have cX : μ 10 11 = α 0 2 := h.1.1.2.2.1
  have cL : μ 10 12 = α 0 3 := h.1.1.2.2.2.1
  have cT : μ 24 1 = α 0 4 := h.1.1.2.2.2.2
  have hr : inB x1 0 (α 0 1 - 1) = true → μ 20 x1.toNatClampNeg = α 2 x1.toNatClampNeg ∧ μ 21 x1.toNatClampNeg = α 3 x1.toNatClampNeg := fun a => h.1.2.2.1 _ (VX.vR hf h.1 a).2.1
  have v1 : inB x1 0 (α 0 1 - 1) = true → vp_in x1 4 := fun a => (VX.vR hf h.1 a).1
  have v2 : inB (x1 - 4) 0 (α 0 0 - 1) = true → vp_in (x1 - 4) 7 := fun a => (VX.vH hf h.1 a).1
  have hh : inB (x1 - 4) 0 (α 0 0 - 1) = true → μ (43 + (x1 - 4).toNatClampNeg) 0 = α 4 (x1 - 4).toNatClampNeg := fun a => h.1.2.2.2.1 _ (VX.vH hf h.1 a).2.1 0 (by omega)
  refine sg_X7_taken_0 ?_
  clear hf
  repeat' (first | assumption | intro _ | apply And.intro)
  all_goals simp_all [vp_in, sp_taken, ← Int32.not_lt]
