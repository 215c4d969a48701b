/-! ===== the class's public methods: the law, horses ===== -/
def lawA (α : Mem) (t : Int32) : Mem := mset α 0 3 t
def sp_force (α : Mem) (t : Int32) : Int32 := if inB t 0 (α 0 2 - 1) = true then α 0 3 else -2
def sq_force (α : Mem) (t : Int32) : Mem := if inB t 0 (α 0 2 - 1) = true then lawA α t else α
theorem wf_law {α : Mem} (hf : WF α) {l : Nat} (hl : l < aX α) : WF (lawA α (nI l)) := by
  obtain ⟨wc, ww, wr, wh, wt, wx, wi, ws⟩ := hf
  have hx6 := wc.2.2.1.2
  have e : ∀ r, r ≠ 0 → lawA α (nI l) r = α r := fun r h => mset_ne h
  have e0 : ∀ k, k ≠ 3 → lawA α (nI l) 0 k = α 0 k := fun k h => mset_other (by omega)
  have eN : aN (lawA α (nI l)) = aN α := by unfold aN; rw [e0 0 (by omega)]
  have eR : aR (lawA α (nI l)) = aR α := by unfold aR; rw [e0 1 (by omega)]
  have eX : aX (lawA α (nI l)) = aX α := by unfold aX; rw [e0 2 (by omega)]
  have eL : aL (lawA α (nI l)) = l := by unfold aL lawA; rw [mset_same, ix_nI (by omega)]
  have eT : aT (lawA α (nI l)) = aT α := by unfold aT; rw [e0 4 (by omega)]
  refine ⟨⟨?_, ?_, ?_, ?_, ?_⟩, ww.eq (e 1 (by omega)), wr.eq (e0 1 (by omega)) (e 2 (by omega)) (e 3 (by omega)), wh.eq wc (e0 0 (by omega)) (fun f _ i _ => by rw [e (4 + f) (by omega)]), wt.eq (e0 4 (by omega)) (e 10 (by omega)), wx.eq (e0 2 (by omega)) (e 17 (by omega)) (e 18 (by omega)), wi.eq (by rw [eN]; exact Nat.le_refl _) (by rw [eR]; exact Nat.le_refl _) (by rw [eX]; exact Nat.le_refl _) (e 11 (by omega)) (e 12 (by omega)) (e 13 (by omega)), ws.eq (e 14 (by omega)) (e 15 (by omega))⟩
  · rw [eN, e0 0 (by omega)]; exact wc.1
  · rw [eR, e0 1 (by omega)]; exact wc.2.1
  · rw [eX, e0 2 (by omega)]; exact wc.2.2.1
  · rw [eL, eX]; exact ⟨mset_same, hl⟩
  · rw [eT, e0 4 (by omega)]; exact wc.2.2.2.2
theorem vx_law {α μ : Mem} (hf : WF α) (h : VX0 α μ) (t : Int32) : VX0 (lawA α t) (mset μ 10 12 t) := by
  obtain ⟨vc, vw, vr, vh, vt, vi, vs, vx⟩ := h
  have e : ∀ r, r ≠ 0 → lawA α t r = α r := fun r h => mset_ne h
  have e0 : ∀ k, k ≠ 3 → lawA α t 0 k = α 0 k := fun k h => mset_other (by omega)
  have n : ∀ r, r ≠ 10 → mset μ 10 12 t r = μ r := fun r h => mset_ne h
  have n0 : ∀ k, k ≠ 12 → mset μ 10 12 t 10 k = μ 10 k := fun k h => mset_other (by omega)
  refine ⟨⟨?_, ?_, ?_, ?_, ?_⟩, ?_, ?_, ?_, ?_, ?_, ?_, ?_⟩
  · rw [n0 9 (by omega), e0 0 (by omega)]; exact vc.1
  · rw [n0 10 (by omega), e0 1 (by omega)]; exact vc.2.1
  · rw [n0 11 (by omega), e0 2 (by omega)]; exact vc.2.2.1
  · unfold lawA; rw [mset_same, mset_same]
  · rw [n 24 (by omega), e0 4 (by omega)]; exact vc.2.2.2.2
  · exact vw.eq (e 1 (by omega)) (fun a _ => n (12 + a) (by omega))
  · exact vr.eq (e0 1 (by omega)) (e 2 (by omega)) (e 3 (by omega)) (n 20 (by omega)) (n 21 (by omega))
  · exact vh.eq hf.1 (e0 0 (by omega)) (fun f _ i _ => by rw [e (4 + f) (by omega)]) (fun i _ f _ => by rw [n (43 + i) (by omega)])
  · exact vt.eq (e0 4 (by omega)) (e 10 (by omega)) (n 25 (by omega))
  · exact vi.eq (e 11 (by omega)) (e 12 (by omega)) (e 13 (by omega)) (n 32 (by omega)) (fun a _ => n (34 + a) (by omega)) (n 41 (by omega))
  · exact vs.eq (e 14 (by omega)) (e 15 (by omega)) (e 16 (by omega)) (fun a _ _ => n a (by omega))
  · exact vx.eq hf.1 (e0 2 (by omega)) (e 17 (by omega)) (e 18 (by omega)) (fun a _ _ => n a (by omega))
theorem keep_set (μ : Mem) {a k : Nat} (ha : a < 82) (v : Int32) : keepM μ (mset μ a k v) := fun r hr => mset_ne (by omega)
theorem vX_t {α : Mem} (hf : WF α) {t : Int32} (h : inB t 0 (α 0 2 - 1) = true) : ∃ l, l < aX α ∧ t = nI l := by
  have := hf.1.2.2.1.2
  rw [hf.1.2.2.1.1] at h
  exact inB_lt (by omega) h
theorem wf_force {α : Mem} (hf : WF α) (t : Int32) : WF (sq_force α t) := by
  unfold sq_force
  split
  · rename_i c
    obtain ⟨l, hl, rfl⟩ := vX_t hf c
    exact wf_law hf hl
  · exact hf
theorem sg_X7_force_0 {G : GW} {K : Option Value → Mem → Prop} {μ : Mem} {x1 : Int32}  (h : (((inB x1 (0 : Int32) ((μ 10 11) - 1)) = true) → (hearAllOK (mset μ 10 12 x1)) ∧ ∀ μ6 : Mem, (hearAllR (mset μ 10 12 x1) μ6) → K (some (.int (μ 10 12))) μ6) ∧ (((inB x1 (0 : Int32) ((μ 10 11) - 1)) = false) → K (some (.int (-2))) μ)) : Ev2 G mX7_force 7 0 [(0, .ref 10), (1, .int x1)] [] μ K := by
  refine ev_iload_n dX7_force_0 1 rfl ?_
  refine ev_iconst (v := 0) dX7_force_1 rfl ?_
  refine ev_aload_n dX7_force_2 0 rfl (by decide) ?_
  refine ev_getI' (v := (μ 10 11)) fl_7_67 rfl kd_10 rfl dX7_force_3 ?_
  refine ev_iconst (v := 1) dX7_force_6 rfl ?_
  refine ev_isub dX7_force_7 ?_
  refine e2_callS (w := .int (bi (inB x1 (0 : Int32) ((μ 10 11) - 1)))) (μ1 := μ) (as := [.int x1, .int 0, .int ((μ 10 11) - 1)]) (st := []) ok_X7_isWithin sv_X7_isWithin ml_7_86 dX7_force_8 rfl rfl (Nat.le_of_ble_eq_true rfl) (Nat.le_of_ble_eq_true rfl) (by decide) (ct_X7_isWithin (x1) (0) (((μ 10 11) - 1)) μ) ?_
  refine ev_ifne_bi (tgt := 17) dX7_force_11 rfl (fun c1 => ?_) (fun c1 => ?_)
  · have h2 := h.1 c1
    refine ev_aload_n dX7_force_17 0 rfl (by decide) ?_
    refine ev_getI' (v := (μ 10 12)) fl_7_70 rfl kd_10 rfl dX7_force_18 ?_
    refine ev_istore_n (lv' := [(0, .ref 10), (1, .int x1), (2, .int (μ 10 12))]) dX7_force_21 (by decide) [1, 2, 0] rfl ?_
    refine ev_aload_n dX7_force_22 0 rfl (by decide) ?_
    refine ev_iload_n dX7_force_23 1 rfl ?_
    have p4 := h2.1
    have h5 := h2.2
    refine e2_callVrv (Rl := fun μ6 => hearAllR (mset μ 10 12 x1) μ6) (a := 10) (as := [.int x1]) (st := []) ok_X7_setLaw vi_X7_setLaw ml_7_125 hcl_7 kd_10 dX7_force_24 rfl rfl (Nat.le_of_ble_eq_true rfl) (Nat.le_of_ble_eq_true rfl) (by decide) (ct_X7_setLaw (x1) μ p4) (fun μ6 r7 => ?_)
    have h8 := h5 μ6 r7
    refine ev_iload_n dX7_force_27 2 rfl ?_
    exact ev_ireturn dX7_force_28 rfl True.intro rfl rfl ⟨rfl, h8⟩
  · have h3 := h.2 c1
    refine ev_bipush (v := (-2)) dX7_force_14 rfl ?_
    exact ev_ireturn dX7_force_16 rfl True.intro rfl rfl ⟨rfl, h3⟩
theorem pb_X7_force {G : GW} {α μ : Mem} (hf : WF α) (h : VX α μ) (x1 : Int32) : pubX G mX7_force 7 [(0, .ref 10), (1, .int x1)] α μ (.int (sp_force α x1)) (sq_force α x1) := by
  have hk := keepM.rf μ
  have cX : μ 10 11 = α 0 2 := h.1.1.2.2.1
  have cL : μ 10 12 = α 0 3 := h.1.1.2.2.2.1
  have hf' := wf_force hf x1
  refine sg_X7_force_0 ⟨fun c => ?_, fun c => ?_⟩
  · rw [cX] at c
    unfold sp_force
    unfold sq_force at hf' ⊢
    rw [if_pos c] at hf' ⊢
    rw [if_pos c]
    have hv := vx_law hf h.1 x1
    refine ⟨hv.hear hf', fun ν hν => ⟨by rw [cL], hv.heard hf' hν, ?_⟩⟩
    exact (keep_set μ (by omega) x1).tr (keepM.of_hearS hν.1)
  · rw [cX] at c
    unfold sp_force
    unfold sq_force
    rw [if_neg (by rw [c]; decide), if_neg (by rw [c]; decide)]
    exact ⟨rfl, h, hk⟩
/-! horses -/
def rowsA (α : Mem) (i : Nat) (k f t td m : Int32) : Mem := mset (mset (mset (mset (mset (mset α 4 i k) 5 i f) 6 i t) 7 i td) 8 i m) 9 i 0
def newA (α : Mem) (k f t td m : Int32) : Mem := mset (rowsA α (aN α) k f t td m) 0 0 (nI (aN α + 1))
theorem rowsA_row {α : Mem} {i r : Nat} {k f t td m : Int32} (h : r < 4 ∨ 9 < r) : rowsA α i k f t td m r = α r := by
  unfold rowsA
  simp (disch := omega) only [mset_ne]
theorem rowsA_oth {α : Mem} {i j r : Nat} {k f t td m : Int32} (h : j ≠ i) : rowsA α i k f t td m r j = α r j := by
  unfold rowsA
  simp (disch := omega) only [mset_other]
theorem newA_at {α : Mem} {k f t td m : Int32} : newA α k f t td m 4 (aN α) = k ∧ newA α k f t td m 5 (aN α) = f ∧ newA α k f t td m 6 (aN α) = t ∧ newA α k f t td m 7 (aN α) = td ∧ newA α k f t td m 8 (aN α) = m ∧ newA α k f t td m 9 (aN α) = 0 := by
  unfold newA rowsA
  refine ⟨?_, ?_, ?_, ?_, ?_, ?_⟩ <;> simp (disch := omega) only [mset_ne, mset_same, mset_other]
theorem newA_row {α : Mem} {r : Nat} {k f t td m : Int32} (h0 : r ≠ 0) (h : r < 4 ∨ 9 < r) : newA α k f t td m r = α r := by
  unfold newA
  rw [mset_ne h0, rowsA_row h]
theorem newA_oth {α : Mem} {j r : Nat} {k f t td m : Int32} (h0 : r ≠ 0) (h : j ≠ aN α) : newA α k f t td m r j = α r j := by
  unfold newA
  rw [mset_ne h0, rowsA_oth h]
theorem newA_0 {α : Mem} {j : Nat} {k f t td m : Int32} (h : j ≠ 0) : newA α k f t td m 0 j = α 0 j := by
  unfold newA
  rw [mset_other (by omega), rowsA_row (by omega)]
theorem newA_n {α : Mem} (hf : wfC α) {k f t td m : Int32} : newA α k f t td m 0 0 = nI (aN α + 1) ∧ aN (newA α k f t td m) = aN α + 1 := by
  have := hf.1.2
  have e : newA α k f t td m 0 0 = nI (aN α + 1) := mset_same
  refine ⟨e, ?_⟩
  show (newA α k f t td m 0 0).toNatClampNeg = _
  rw [e, ix_nI (by omega)]
theorem wf_new {α : Mem} (hf : WF α) (hn : aN α < 7) {k f t td m : Int32} (hk : ∃ u, u < 6 ∧ k = nI u) (hff : ∃ u, u < 7 ∧ f = nI u) (ht : ∃ u, u < 7 ∧ t = nI u) (hft : ¬ f = t) (htd : ∃ u, 1 ≤ u ∧ u ≤ 999 ∧ td = nI u) (hm : ∃ u, u ≤ 9 ∧ m = nI u) : WF (newA α k f t td m) := by
  obtain ⟨wc, ww, wr, wh, wt, wx, wi, ws⟩ := hf
  have e : ∀ r, r ≠ 0 ∧ (r < 4 ∨ 9 < r) → newA α k f t td m r = α r := fun r h => newA_row h.1 h.2
  have e0 : ∀ j, j ≠ 0 → newA α k f t td m 0 j = α 0 j := fun j h => newA_0 h
  obtain ⟨g0, gN⟩ := newA_n wc (k := k) (f := f) (t := t) (td := td) (m := m)
  have eR : aR (newA α k f t td m) = aR α := by unfold aR; rw [e0 1 (by omega)]
  have eX : aX (newA α k f t td m) = aX α := by unfold aX; rw [e0 2 (by omega)]
  have eL : aL (newA α k f t td m) = aL α := by unfold aL; rw [e0 3 (by omega)]
  have eT : aT (newA α k f t td m) = aT α := by unfold aT; rw [e0 4 (by omega)]
  refine ⟨⟨?_, ?_, ?_, ?_, ?_⟩, ww.eq (e 1 (by omega)), wr.eq (e0 1 (by omega)) (e 2 (by omega)) (e 3 (by omega)), ?_, wt.eq (e0 4 (by omega)) (e 10 (by omega)), wx.eq (e0 2 (by omega)) (e 17 (by omega)) (e 18 (by omega)), wi.eq (by rw [gN]; omega) (by rw [eR]; exact Nat.le_refl _) (by rw [eX]; exact Nat.le_refl _) (e 11 (by omega)) (e 12 (by omega)) (e 13 (by omega)), ws.eq (e 14 (by omega)) (e 15 (by omega))⟩
  · rw [gN, g0]; exact ⟨rfl, by omega⟩
  · rw [eR, e0 1 (by omega)]; exact wc.2.1
  · rw [eX, e0 2 (by omega)]; exact wc.2.2.1
  · rw [eL, eX, e0 3 (by omega)]; exact wc.2.2.2.1
  · rw [eT, e0 4 (by omega)]; exact wc.2.2.2.2
  · intro i hi
    rw [gN] at hi
    by_cases c : i = aN α
    · subst c
      obtain ⟨a1, a2, a3, a4, a5, a6⟩ := newA_at (α := α) (k := k) (f := f) (t := t) (td := td) (m := m)
      unfold wfH1
      rw [a1, a2, a3, a4, a5, a6]
      exact ⟨hk, hff, ht, hft, htd, hm, 0, by omega, rfl⟩
    · exact (wh i (by omega)).eq (fun f _ => newA_oth (by omega) c)
/-- a horse that the class makes of what it has not told of yet -/
theorem foal {α μ : Mem} (hf : WF α) (h : VX α μ) (hn : aN α < 7) {k f t td m : Int32} (hw : WF (newA α k f t td m)) : hearOK (becomeM μ (43 + aN α) k f t td m) (43 + aN α) ∧ ∀ ν, hearR (becomeM μ (43 + aN α) k f t td m) (43 + aN α) ν → VX α ν ∧ vXh1 (newA α k f t td m) ν (aN α) ∧ vXs1 (newA α k f t td m) ν (aN α) ∧ keepM μ ν := by
  have hb : ∀ r, r ≠ 43 + aN α → becomeM μ (43 + aN α) k f t td m r = μ r := fun r h => by
    unfold becomeM
    simp (disch := omega) only [mset_ne]
  have hx : VX0 α (becomeM μ (43 + aN α) k f t td m) := h.1.same hf (fun a j _ _ h3 _ => by rw [hb a (by omega)])
  obtain ⟨vc, vw, vr, vh, vt, vi, vs, vx⟩ := hx
  have e : ∀ r, r ≠ 0 ∧ (r < 4 ∨ 9 < r) → newA α k f t td m r = α r := fun r h => newA_row h.1 h.2
  have e0 : ∀ j, j ≠ 0 → newA α k f t td m 0 j = α 0 j := fun j h => newA_0 h
  obtain ⟨g0, gN⟩ := newA_n hf.1 (k := k) (f := f) (t := t) (td := td) (m := m)
  obtain ⟨a1, a2, a3, a4, a5, a6⟩ := newA_at (α := α) (k := k) (f := f) (t := t) (td := td) (m := m)
  have eX : aX (newA α k f t td m) = aX α := by unfold aX; rw [e0 2 (by omega)]
  have hv1 : vXh1 (newA α k f t td m) (becomeM μ (43 + aN α) k f t td m) (aN α) := by
    intro j hj
    have hc : becomeM μ (43 + aN α) k f t td m (43 + aN α) 0 = k ∧ becomeM μ (43 + aN α) k f t td m (43 + aN α) 1 = f ∧ becomeM μ (43 + aN α) k f t td m (43 + aN α) 2 = t ∧ becomeM μ (43 + aN α) k f t td m (43 + aN α) 3 = td ∧ becomeM μ (43 + aN α) k f t td m (43 + aN α) 4 = m ∧ becomeM μ (43 + aN α) k f t td m (43 + aN α) 5 = 0 := by
      unfold becomeM
      refine ⟨?_, ?_, ?_, ?_, ?_, ?_⟩ <;> simp (disch := omega) only [mset_same, mset_other]
    obtain ⟨b1, b2, b3, b4, b5, b6⟩ := hc
    rcases (show j = 0 ∨ j = 1 ∨ j = 2 ∨ j = 3 ∨ j = 4 ∨ j = 5 by omega) with rfl | rfl | rfl | rfl | rfl | rfl
    · exact b1.trans a1.symm
    · exact b2.trans a2.symm
    · exact b3.trans a3.symm
    · exact b4.trans a4.symm
    · exact b5.trans a5.symm
    · exact b6.trans a6.symm
  have hl := law_of (α := newA α k f t td m) (μ := becomeM μ (43 + aN α) k f t td m) (h := aN α) hn hv1 (hw.2.2.2.1 _ (by rw [gN]; omega)) (vw.eq (e 1 (by omega)) (fun _ _ => rfl)) hw.2.2.2.2.2.1 (vx.eq hf.1 (e0 2 (by omega)) (e 17 (by omega)) (e 18 (by omega)) (fun _ _ _ => rfl)) (by rw [e0 3 (by omega)]; exact vc.2.2.2.1) hw.1.2.2.2.1 hw.1.2.2.1.2
  refine ⟨hl.1, fun ν hν => ⟨?_, ?_, ?_, ?_⟩⟩
  · refine h.same hf (fun a j _ h3 h4 => ?_)
    rw [hν.2.2 a (by omega) (fun q => h4 (Or.inr (Or.inr (Or.inr q)))), hb a (by omega)]
  · exact hv1.eq (fun _ _ => rfl) (fun j hj => hν.2.1 j (by omega))
  · intro p hp
    rw [hν.1 p hp]
    exact hl.2 p hp
  · exact fun a ha => by rw [hν.2.2 a (by omega) (TS_no (by omega)), hb a (by omega)]
theorem foal_all {α μ : Mem} (hf : WF α) (h : VX α μ) {k f t td m : Int32} (h1 : vXh1 (newA α k f t td m) μ (aN α)) (h2 : vXs1 (newA α k f t td m) μ (aN α)) : vXh (newA α k f t td m) μ ∧ vXs (newA α k f t td m) μ ∧ vXw (newA α k f t td m) μ := by
  obtain ⟨g0, gN⟩ := newA_n hf.1 (k := k) (f := f) (t := t) (td := td) (m := m)
  refine ⟨fun i hi => ?_, fun i hi => ?_, h.1.2.1.eq (newA_row (by omega) (by omega)) (fun _ _ => rfl)⟩
  · rw [gN] at hi
    by_cases c : i = aN α
    · rw [c]; exact h1
    · exact (h.1.2.2.2.1 i (by omega)).eq (fun f _ => newA_oth (by omega) c) (fun _ _ => rfl)
  · rw [gN] at hi
    by_cases c : i = aN α
    · rw [c]; exact h2
    · intro p hp
      rw [saidA_eq (newA_0 (by omega)) (newA_row (by omega) (by omega)) (fun f _ => newA_oth (by omega) c) (newA_row (by omega) (by omega)) (newA_row (by omega) (by omega))]
      exact h.2 i (by omega) p hp
