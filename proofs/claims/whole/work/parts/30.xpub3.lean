/-! ===== the class's public methods: walks, rides, the law, horses ===== -/
def walkA (α : Mem) (a b : Nat) (v : Int32) : Mem := mset (mset α 1 (7 * a + b) v) 1 (7 * b + a) v
theorem walkA_row {α : Mem} {a b r : Nat} {v : Int32} (h : r ≠ 1) : walkA α a b v r = α r := by
  unfold walkA
  rw [mset_ne h, mset_ne h]
theorem walkA_at {α : Mem} {a b p q : Nat} {v : Int32} (ha : a < 7) (hb : b < 7) (hp : p < 7) (hq : q < 7) : walkA α a b v 1 (7 * p + q) = if (p = a ∧ q = b) ∨ (p = b ∧ q = a) then v else α 1 (7 * p + q) := by
  unfold walkA
  by_cases c2 : p = b ∧ q = a
  · obtain ⟨rfl, rfl⟩ := c2
    rw [mset_same, if_pos (Or.inr ⟨rfl, rfl⟩)]
  · rw [mset_other (by omega)]
    by_cases c1 : p = a ∧ q = b
    · obtain ⟨rfl, rfl⟩ := c1
      rw [mset_same, if_pos (Or.inl ⟨rfl, rfl⟩)]
    · rw [mset_other (by omega), if_neg (fun q => q.elim c1 c2)]
theorem wf_walkA {α : Mem} (hf : WF α) {a b w : Nat} (ha : a < 7) (hb : b < 7) (hw : 1 ≤ w ∧ w ≤ 999) : WF (walkA α a b (nI w)) := by
  obtain ⟨wc, ww, wr, wh, wt, wx, wi, ws⟩ := hf
  have e : ∀ r, r ≠ 1 → walkA α a b (nI w) r = α r := fun r h => walkA_row h
  refine ⟨wc.eq (fun k _ => by rw [e 0 (by omega)]), ?_, wr.eq (by rw [e 0 (by omega)]) (e 2 (by omega)) (e 3 (by omega)), wh.eq wc (by rw [e 0 (by omega)]) (fun f _ i _ => by rw [e (4 + f) (by omega)]), wt.eq (by rw [e 0 (by omega)]) (e 10 (by omega)), wx.eq (by rw [e 0 (by omega)]) (e 17 (by omega)) (e 18 (by omega)), wi.eq ?_ ?_ ?_ (e 11 (by omega)) (e 12 (by omega)) (e 13 (by omega)), ws.eq (e 14 (by omega)) (e 15 (by omega))⟩
  · intro p q hp hq hpq
    by_cases c : (p = a ∧ q = b) ∨ (p = b ∧ q = a)
    · refine ⟨w, hw.1, hw.2, ?_, ?_⟩
      · rw [walkA_at ha hb hp hq, if_pos c]
      · rw [walkA_at ha hb hq hp, if_pos (by omega)]
    · obtain ⟨u, h1, h2, h3, h4⟩ := ww p q hp hq hpq
      refine ⟨u, h1, h2, ?_, ?_⟩
      · rw [walkA_at ha hb hp hq, if_neg c]; exact h3
      · rw [walkA_at ha hb hq hp, if_neg (by omega)]; exact h4
  · unfold aN; rw [e 0 (by omega)]; exact Nat.le_refl _
  · unfold aR; rw [e 0 (by omega)]; exact Nat.le_refl _
  · unfold aX; rw [e 0 (by omega)]; exact Nat.le_refl _
theorem walkM_at {μ : Mem} {a b p q : Nat} {v : Int32} (ha : a < 7) (hb : b < 7) (hp : p < 7) (hq : q < 7) : walkM μ a b v (12 + p) q = if (p = a ∧ q = b) ∨ (p = b ∧ q = a) then v else μ (12 + p) q := by
  unfold walkM
  by_cases c2 : p = b ∧ q = a
  · obtain ⟨rfl, rfl⟩ := c2
    rw [mset_same, if_pos (Or.inr ⟨rfl, rfl⟩)]
  · rw [mset_other (by omega)]
    by_cases c1 : p = a ∧ q = b
    · obtain ⟨rfl, rfl⟩ := c1
      rw [mset_same, if_pos (Or.inl ⟨rfl, rfl⟩)]
    · rw [mset_other (by omega), if_neg (fun q => q.elim c1 c2)]
theorem vx_walkA {α μ : Mem} (hf : wfC α) (h : VX0 α μ) {a b : Nat} (ha : a < 7) (hb : b < 7) (v : Int32) : VX0 (walkA α a b v) (walkM μ a b v) := by
  obtain ⟨vc, vw, vr, vh, vt, vi, vs, vx⟩ := h
  have e : ∀ r, r ≠ 1 → walkA α a b v r = α r := fun r h => walkA_row h
  have n : ∀ r, (r < 12 ∨ 18 < r) → walkM μ a b v r = μ r := fun r h => by
    unfold walkM
    rw [mset_ne (by omega), mset_ne (by omega)]
  refine ⟨vc.eq (fun k _ => by rw [e 0 (by omega)]) (fun k _ _ => by rw [n 10 (by omega)]) (by rw [n 24 (by omega)]), ?_, vr.eq (by rw [e 0 (by omega)]) (e 2 (by omega)) (e 3 (by omega)) (n 20 (by omega)) (n 21 (by omega)), vh.eq hf (by rw [e 0 (by omega)]) (fun f _ i _ => by rw [e (4 + f) (by omega)]) (fun i _ f _ => by rw [n (43 + i) (by omega)]), vt.eq (by rw [e 0 (by omega)]) (e 10 (by omega)) (n 25 (by omega)), vi.eq (e 11 (by omega)) (e 12 (by omega)) (e 13 (by omega)) (n 32 (by omega)) (fun a _ => n (34 + a) (by omega)) (n 41 (by omega)), vs.eq (e 14 (by omega)) (e 15 (by omega)) (e 16 (by omega)) (fun a _ _ => n a (by omega)), vx.eq hf (by rw [e 0 (by omega)]) (e 17 (by omega)) (e 18 (by omega)) (fun a _ _ => n a (by omega))⟩
  intro p q hp hq
  rw [walkM_at ha hb hp hq, walkA_at ha hb hp hq, vw p q hp hq]
theorem keep_walkM (μ : Mem) {a b : Nat} (ha : a < 7) (hb : b < 7) (v : Int32) : keepM μ (walkM μ a b v) := fun r hr => by
  unfold walkM
  rw [mset_ne (by omega), mset_ne (by omega)]
def sp_path (α : Mem) (a b v : Int32) : Int32 := if wayB a b = true then (if inB v 1 999 = true then α 1 (7 * a.toNatClampNeg + b.toNatClampNeg) else -7) else -5
def sq_path (α : Mem) (a b v : Int32) : Mem := if wayB a b = true ∧ inB v 1 999 = true then walkA α a.toNatClampNeg b.toNatClampNeg v else α
theorem wayB_t {a b : Int32} (h : wayB a b = true) : ∃ p q, p < 7 ∧ q < 7 ∧ p ≠ q ∧ a = nI p ∧ b = nI q := by
  simp only [wayB, Bool.and_eq_true, Bool.not_eq_true', decide_eq_false_iff_not] at h
  obtain ⟨⟨h1, h2⟩, h3⟩ := h
  obtain ⟨p, hp, rfl⟩ := inB_nI (m := 6) (by omega) h1
  obtain ⟨q, hq, rfl⟩ := inB_nI (m := 6) (by omega) h2
  exact ⟨p, q, by omega, by omega, fun e => h3 (by rw [e]), rfl, rfl⟩
theorem inB_mid {v : Int32} {lo hi : Nat} (h2 : hi < 2 ^ 30) (h1 : lo ≤ hi) (h : inB v (nI lo) (nI hi) = true) : ∃ w, lo ≤ w ∧ w ≤ hi ∧ v = nI w := by
  rw [inB_t, i_le, i_le, nI_toInt (by omega), nI_toInt (by omega)] at h
  refine ⟨v.toInt.toNat, by omega, by omega, ?_⟩
  rw [i_eq, nI_toInt (by omega)]
  omega
theorem wf_path {α : Mem} (hf : WF α) (a b v : Int32) : WF (sq_path α a b v) := by
  unfold sq_path
  split
  · rename_i c
    obtain ⟨p, q, hp, hq, hpq, rfl, rfl⟩ := wayB_t c.1
    obtain ⟨w, h1, h2, rfl⟩ := inB_mid (lo := 1) (hi := 999) (by omega) (by omega) c.2
    rw [ix_nI (by omega), ix_nI (by omega)]
    exact wf_walkA hf hp hq ⟨h1, h2⟩
  · exact hf
theorem sg_X7_path_0 {G : GW} {K : Option Value → Mem → Prop} {μ : Mem} {x1 x2 x3 : Int32}  (h : (((wayB x1 x2) = true) → (((inB x3 (1 : Int32) (999 : Int32)) = true) → (vp_in x1 7) ∧ (vp_in x2 7) ∧ ∀ y11 : Int32, y11 = (μ (12 + x1.toNatClampNeg) x2.toNatClampNeg) → (vp_in x1 7 ∧ vp_in x2 7 ∧ hearAllOK (walkM μ x1.toNatClampNeg x2.toNatClampNeg x3)) ∧ ∀ μ15 : Mem, (hearAllR (walkM μ x1.toNatClampNeg x2.toNatClampNeg x3) μ15) → K (some (.int y11)) μ15) ∧ (((inB x3 (1 : Int32) (999 : Int32)) = false) → K (some (.int (-7))) μ)) ∧ (((wayB x1 x2) = false) → K (some (.int (-5))) μ)) : Ev2 G mX7_path 7 0 [(0, .ref 10), (1, .int x1), (2, .int x2), (3, .int x3)] [] μ K := by
  refine ev_iload_n dX7_path_0 1 rfl ?_
  refine ev_iload_n dX7_path_1 2 rfl ?_
  refine e2_callS (w := .int (bi (wayB x1 x2))) (μ1 := μ) (as := [.int x1, .int x2]) (st := []) ok_X7_isWay sv_X7_isWay ml_7_82 dX7_path_2 rfl rfl (Nat.le_of_ble_eq_true rfl) (Nat.le_of_ble_eq_true rfl) (by decide) (ct_X7_isWay (x1) (x2) μ) ?_
  refine ev_ifne_bi (tgt := 11) dX7_path_5 rfl (fun c1 => ?_) (fun c1 => ?_)
  · have h2 := h.1 c1
    refine ev_iload_n dX7_path_11 3 rfl ?_
    refine ev_iconst (v := 1) dX7_path_12 rfl ?_
    refine ev_sipush (v := 999) dX7_path_13 rfl ?_
    refine e2_callS (w := .int (bi (inB x3 (1 : Int32) (999 : Int32)))) (μ1 := μ) (as := [.int x3, .int 1, .int 999]) (st := []) ok_X7_isWithin sv_X7_isWithin ml_7_86 dX7_path_16 rfl rfl (Nat.le_of_ble_eq_true rfl) (Nat.le_of_ble_eq_true rfl) (by decide) (ct_X7_isWithin (x3) (1) (999) μ) ?_
    refine ev_ifne_bi (tgt := 25) dX7_path_19 rfl (fun c4 => ?_) (fun c4 => ?_)
    · have h5 := h2.1 c4
      refine ev_aload_n dX7_path_25 0 rfl (by decide) ?_
      refine ev_getR' fl_7_11 rfl kd_10 rf_10_0 dX7_path_26 ?_
      refine ev_iload_n dX7_path_29 1 rfl ?_
      have p7 := h5.1
      have h8 := h5.2
      refine ev_aaload' (k := 4) kd_11 (by omega) ln_11 p7 (raW p7) dX7_path_30 ?_
      refine ev_iload_n dX7_path_31 2 rfl ?_
      have p9 := h8.1
      have h10 := h8.2
      refine ev_iaload' (v := (μ (12 + x1.toNatClampNeg) x2.toNatClampNeg)) (kdRw (isW p7)) (lnRw (isW p7)) p9 rfl dX7_path_32 ?_
      refine ev_top (fun y11 ey11 => ?_)
      have h12 := h10 y11 ey11
      refine ev_istore (lv' := [(0, .ref 10), (1, .int x1), (2, .int x2), (3, .int x3), (4, .int y11)]) dX7_path_33 (by decide) [1, 2, 3, 4, 0] rfl ?_
      refine ev_aload_n dX7_path_35 0 rfl (by decide) ?_
      refine ev_iload_n dX7_path_36 1 rfl ?_
      refine ev_iload_n dX7_path_37 2 rfl ?_
      refine ev_iload_n dX7_path_38 3 rfl ?_
      have p13 := h12.1
      have h14 := h12.2
      refine e2_callVrv (Rl := fun μ15 => hearAllR (walkM μ x1.toNatClampNeg x2.toNatClampNeg x3) μ15) (a := 10) (as := [.int x1, .int x2, .int x3]) (st := []) ok_X7_setWalk vi_X7_setWalk ml_7_90 hcl_7 kd_10 dX7_path_39 rfl rfl (Nat.le_of_ble_eq_true rfl) (Nat.le_of_ble_eq_true rfl) (by decide) (ct_X7_setWalk (x1) (x2) (x3) μ p13) (fun μ15 r16 => ?_)
      have h17 := h14 μ15 r16
      refine ev_iload dX7_path_42 4 rfl ?_
      exact ev_ireturn dX7_path_44 rfl True.intro rfl rfl ⟨rfl, h17⟩
    · have h6 := h2.2 c4
      refine ev_bipush (v := (-7)) dX7_path_22 rfl ?_
      exact ev_ireturn dX7_path_24 rfl True.intro rfl rfl ⟨rfl, h6⟩
  · have h3 := h.2 c1
    refine ev_bipush (v := (-5)) dX7_path_8 rfl ?_
    exact ev_ireturn dX7_path_10 rfl True.intro rfl rfl ⟨rfl, h3⟩
theorem pb_X7_path {G : GW} {α μ : Mem} (hf : WF α) (h : VX α μ) (x1 x2 x3 : Int32) : pubX G mX7_path 7 [(0, .ref 10), (1, .int x1), (2, .int x2), (3, .int x3)] α μ (.int (sp_path α x1 x2 x3)) (sq_path α x1 x2 x3) := by
  have hk := keepM.rf μ
  refine sg_X7_path_0 ⟨fun c => ⟨fun d => ?_, fun d => ?_⟩, fun c => ?_⟩
  · have hf' := wf_path hf x1 x2 x3
    have e1 : sp_path α x1 x2 x3 = α 1 (7 * x1.toNatClampNeg + x2.toNatClampNeg) := by unfold sp_path; rw [if_pos c, if_pos d]
    have e2 : sq_path α x1 x2 x3 = walkA α x1.toNatClampNeg x2.toNatClampNeg x3 := by unfold sq_path; rw [if_pos ⟨c, d⟩]
    rw [e2] at hf' ⊢
    rw [e1]
    obtain ⟨p, q, hp, hq, hpq, rfl, rfl⟩ := wayB_t c
    rw [ix_nI (by omega), ix_nI (by omega)] at hf' ⊢
    have hv := vx_walkA hf.1 h.1 hp hq x3
    refine ⟨vp_nI hp (by omega), vp_nI hq (by omega), fun y hy => ⟨⟨vp_nI hp (by omega), vp_nI hq (by omega), hv.hear hf'⟩, fun ν hν => ⟨?_, hv.heard hf' hν, ?_⟩⟩⟩
    · rw [hy, h.1.2.1 p q hp hq]
    · exact (keep_walkM μ hp hq x3).tr (keepM.of_hearS hν.1)
  · have e1 : sp_path α x1 x2 x3 = -7 := by unfold sp_path; rw [if_pos c, if_neg (by rw [d]; decide)]
    have e2 : sq_path α x1 x2 x3 = α := by unfold sq_path; rw [if_neg (by rw [d]; simp)]
    rw [e1, e2]
    exact ⟨rfl, h, hk⟩
  · have e1 : sp_path α x1 x2 x3 = -5 := by unfold sp_path; rw [if_neg (by rw [c]; decide)]
    have e2 : sq_path α x1 x2 x3 = α := by unfold sq_path; rw [if_neg (by rw [c]; simp)]
    rw [e1, e2]
    exact ⟨rfl, h, hk⟩
/-! rides -/
theorem saidA_eq {α β : Mem} {p i : Nat} (e3 : β 0 3 = α 0 3) (e1 : β 1 = α 1) (e : ∀ f, f < 6 → β (4 + f) i = α (4 + f) i) (e17 : β 17 = α 17) (e18 : β 18 = α 18) : saidA β p i = saidA α p i := by
  have h1 : β 5 i = α 5 i := e 1 (by omega)
  have h2 : β 6 i = α 6 i := e 2 (by omega)
  have h3 : β 7 i = α 7 i := e 3 (by omega)
  have h4 : β 8 i = α 8 i := e 4 (by omega)
  have h5 : β 9 i = α 9 i := e 5 (by omega)
  have ee : envA β i = envA α i := by
    funext k
    unfold envA
    rw [h1, h2, h3, h4, h5, e1]
  unfold saidA sayA aL
  rw [ee, e17, e18, e3]
theorem vXs.eq {α β μ ν : Mem} (h : vXs α μ) (e0 : β 0 0 = α 0 0) (e3 : β 0 3 = α 0 3) (e1 : β 1 = α 1) (e : ∀ f, f < 6 → β (4 + f) = α (4 + f)) (e17 : β 17 = α 17) (e18 : β 18 = α 18) (hf : wfC α) (n : ∀ i, i < 7 → ∀ f, f < 3 → ν (43 + i) (6 + f) = μ (43 + i) (6 + f)) : vXs β ν := fun i hi p hp => by
  unfold aN at hi
  rw [e0] at hi
  rw [n i (Nat.lt_of_lt_of_le hi hf.1.2) p hp, saidA_eq e3 e1 (fun f hf => by rw [e f hf]) e17 e18]
  exact h i hi p hp
def sp_ride (α : Mem) (a b : Int32) : Int32 := if wayB a b = true then (if α 0 1 < 4 then α 0 1 else -4) else -2
def sq_ride (α : Mem) (a b : Int32) : Mem := if wayB a b = true ∧ α 0 1 < 4 then mset (mset (mset α 2 (aR α) a) 3 (aR α) b) 0 1 (α 0 1 + 1) else α
theorem lt_nI {n m : Nat} (hn : n < 2 ^ 30) (hm : m < 2 ^ 30) (h : nI n < nI m) : n < m := by
  rw [i_lt, nI_toInt (by omega), nI_toInt (by omega)] at h
  omega
theorem add1 (n : Nat) : nI n + 1 = nI (n + 1) := nI_1 n
theorem wf_ride {α : Mem} (hf : WF α) (a b : Int32) : WF (sq_ride α a b) := by
  unfold sq_ride
  split
  · rename_i c
    obtain ⟨wc, ww, wr, wh, wt, wx, wi, ws⟩ := hf
    obtain ⟨c1, ⟨c2, c3⟩, c4, c5, c6⟩ := wc
    have cw : wfC α := ⟨c1, ⟨c2, c3⟩, c4, c5, c6⟩
    have hlt : aR α < 4 := lt_nI (n := aR α) (m := 4) (by omega) (by omega) (c2 ▸ c.2)
    have eR : aR (mset (mset (mset α 2 (aR α) a) 3 (aR α) b) 0 1 (α 0 1 + 1)) = aR α + 1 := by
      show (mset (mset (mset α 2 (aR α) a) 3 (aR α) b) 0 1 (α 0 1 + 1) 0 1).toNatClampNeg = _
      rw [mset_same, c2, add1, ix_nI (by omega)]
    have e0 : ∀ k, k ≠ 1 → (mset (mset (mset α 2 (aR α) a) 3 (aR α) b) 0 1 (α 0 1 + 1)) 0 k = α 0 k := fun k h => by
      rw [mset_other (by omega), mset_other (by omega), mset_other (by omega)]
    have e : ∀ r, r ≠ 0 → r ≠ 2 → r ≠ 3 → (mset (mset (mset α 2 (aR α) a) 3 (aR α) b) 0 1 (α 0 1 + 1)) r = α r := fun r h1 h2 h3 => by
      rw [mset_ne h1, mset_ne h3, mset_ne h2]
    have eN : ∀ k, k ≠ 1 → ((mset (mset (mset α 2 (aR α) a) 3 (aR α) b) 0 1 (α 0 1 + 1)) 0 k).toNatClampNeg = (α 0 k).toNatClampNeg := fun k h => by rw [e0 k h]
    refine ⟨⟨?_, ⟨?_, ?_⟩, ?_, ?_, ?_⟩, ww.eq (e 1 (by omega) (by omega) (by omega)), ?_, wh.eq cw (e0 0 (by omega)) (fun f _ i _ => by rw [e (4 + f) (by omega) (by omega) (by omega)]), wt.eq (e0 4 (by omega)) (e 10 (by omega) (by omega) (by omega)), wx.eq (e0 2 (by omega)) (e 17 (by omega) (by omega) (by omega)) (e 18 (by omega) (by omega) (by omega)), wi.eq ?_ (by omega) ?_ (e 11 (by omega) (by omega) (by omega)) (e 12 (by omega) (by omega) (by omega)) (e 13 (by omega) (by omega) (by omega)), ws.eq (e 14 (by omega) (by omega) (by omega)) (e 15 (by omega) (by omega) (by omega))⟩
    · unfold aN at c1 ⊢; rw [e0 0 (by omega)]; exact c1
    · rw [eR, mset_same, c2, add1]
    · rw [eR]; omega
    · unfold aX at c4 ⊢; rw [e0 2 (by omega)]; exact c4
    · unfold aL aX at c5 ⊢; rw [e0 2 (by omega), e0 3 (by omega)]; exact c5
    · unfold aT at c6 ⊢; rw [e0 4 (by omega)]; exact c6
    · obtain ⟨p, q, hp, hq, hpq, rfl, rfl⟩ := wayB_t c.1
      intro i hi
      rw [eR] at hi
      by_cases hi' : i = aR α
      · subst hi'
        refine ⟨⟨p, hp, ?_⟩, q, hq, ?_⟩
        · rw [mset_other (by omega), mset_other (by omega), mset_same]
        · rw [mset_other (by omega), mset_same]
      · obtain ⟨g1, g2⟩ := wr i (by omega)
        rw [mset_other (by omega), mset_other (by omega), mset_other (by omega), mset_other (by omega), mset_other (by omega), mset_other (by omega)]
        exact ⟨g1, g2⟩
    · unfold aN; rw [e0 0 (by omega)]; exact Nat.le_refl _
    · unfold aX; rw [e0 2 (by omega)]; exact Nat.le_refl _
  · exact hf
theorem sg_X7_ride_0 {G : GW} {K : Option Value → Mem → Prop} {μ : Mem} {x1 x2 : Int32}  (h : (((wayB x1 x2) = true) → (((μ 10 10) < 4) → (vp_in (μ 10 10) 4) ∧ (vp_in (μ 10 10) 4) ∧ K (some (.int (((μ 10 10) + 1) - 1))) (mset (mset (mset μ 20 (μ 10 10).toNatClampNeg x1) 21 (μ 10 10).toNatClampNeg x2) 10 10 ((μ 10 10) + 1))) ∧ ((¬ ((μ 10 10) < 4)) → K (some (.int (-4))) μ)) ∧ (((wayB x1 x2) = false) → K (some (.int (-2))) μ)) : Ev2 G mX7_ride 4 0 [(0, .ref 10), (1, .int x1), (2, .int x2)] [] μ K := by
  refine ev_iload_n dX7_ride_0 1 rfl ?_
  refine ev_iload_n dX7_ride_1 2 rfl ?_
  refine e2_callS (w := .int (bi (wayB x1 x2))) (μ1 := μ) (as := [.int x1, .int x2]) (st := []) ok_X7_isWay sv_X7_isWay ml_7_82 dX7_ride_2 rfl rfl (Nat.le_of_ble_eq_true rfl) (Nat.le_of_ble_eq_true rfl) (by decide) (ct_X7_isWay (x1) (x2) μ) ?_
  refine ev_ifne_bi (tgt := 11) dX7_ride_5 rfl (fun c1 => ?_) (fun c1 => ?_)
  · have h2 := h.1 c1
    refine ev_aload_n dX7_ride_11 0 rfl (by decide) ?_
    refine ev_getI' (v := (μ 10 10)) fl_7_64 rfl kd_10 rfl dX7_ride_12 ?_
    refine ev_iconst (v := 4) dX7_ride_15 rfl ?_
    refine ev_icmp_lt (tgt := 22) dX7_ride_16 rfl (fun c4 => ?_) (fun c4 => ?_)
    · have h5 := h2.1 c4
      refine ev_aload_n dX7_ride_22 0 rfl (by decide) ?_
      refine ev_getR' fl_7_20 rfl kd_10 rf_10_2 dX7_ride_23 ?_
      refine ev_aload_n dX7_ride_26 0 rfl (by decide) ?_
      refine ev_getI' (v := (μ 10 10)) fl_7_64 rfl kd_10 rfl dX7_ride_27 ?_
      refine ev_iload_n dX7_ride_30 1 rfl ?_
      have p7 := h5.1
      have h8 := h5.2
      refine ev_iastore' (j := (μ 10 10).toNatClampNeg) kd_20 ln_20 p7 rfl dX7_ride_31 ?_
      refine ev_aload_n dX7_ride_32 0 rfl (by decide) ?_
      refine ev_getR' fl_7_24 rfl kd_10 rf_10_3 dX7_ride_33 ?_
      refine ev_aload_n dX7_ride_36 0 rfl (by decide) ?_
      refine ev_getI' (v := (μ 10 10)) fl_7_64 rfl kd_10 rfl dX7_ride_37 ?_
      refine ev_iload_n dX7_ride_40 2 rfl ?_
      have p9 := h8.1
      have h10 := h8.2
      refine ev_iastore' (j := (μ 10 10).toNatClampNeg) kd_21 ln_21 p9 rfl dX7_ride_41 ?_
      refine ev_aload_n dX7_ride_42 0 rfl (by decide) ?_
      refine ev_dup dX7_ride_43 rfl ?_
      refine ev_getI' (v := (μ 10 10)) fl_7_64 rfl kd_10 rfl dX7_ride_44 ?_
      refine ev_iconst (v := 1) dX7_ride_47 rfl ?_
      refine ev_iadd dX7_ride_48 ?_
      refine ev_putI fl_7_64 ⟨rfl, rfl, rfl⟩ (fun r hr => by cases hr; rfl) kd_10 dX7_ride_49 ?_
      refine ev_aload_n dX7_ride_52 0 rfl (by decide) ?_
      refine ev_getI' (v := ((μ 10 10) + 1)) fl_7_64 rfl kd_10 rfl dX7_ride_53 ?_
      refine ev_iconst (v := 1) dX7_ride_56 rfl ?_
      refine ev_isub dX7_ride_57 ?_
      exact ev_ireturn dX7_ride_58 rfl True.intro rfl rfl ⟨rfl, h10⟩
    · have h6 := h2.2 c4
      refine ev_bipush (v := (-4)) dX7_ride_19 rfl ?_
      exact ev_ireturn dX7_ride_21 rfl True.intro rfl rfl ⟨rfl, h6⟩
  · have h3 := h.2 c1
    refine ev_bipush (v := (-2)) dX7_ride_8 rfl ?_
    exact ev_ireturn dX7_ride_10 rfl True.intro rfl rfl ⟨rfl, h3⟩
theorem pb_X7_ride {G : GW} {α μ : Mem} (hf : WF α) (h : VX α μ) (x1 x2 : Int32) : pubX G mX7_ride 4 [(0, .ref 10), (1, .int x1), (2, .int x2)] α μ (.int (sp_ride α x1 x2)) (sq_ride α x1 x2) := by
  have hk := keepM.rf μ
  have cR : μ 10 10 = α 0 1 := h.1.1.2.1
  obtain ⟨hR, hR4⟩ := hf.1.2.1
  refine sg_X7_ride_0 ⟨fun c => ⟨fun d => ?_, fun d => ?_⟩, fun c => ?_⟩
  · rw [cR] at d ⊢
    have e1 : sp_ride α x1 x2 = α 0 1 := by unfold sp_ride; rw [if_pos c, if_pos d]
    have e2 : sq_ride α x1 x2 = mset (mset (mset α 2 (aR α) x1) 3 (aR α) x2) 0 1 (α 0 1 + 1) := by unfold sq_ride; rw [if_pos ⟨c, d⟩]
    rw [e1, e2]
    have hlt : aR α < 4 := lt_nI (n := aR α) (m := 4) (by omega) (by omega) (hR ▸ d)
    have hv : vp_in (α 0 1) 4 := by rw [hR]; exact vp_nI hlt (by omega)
    have eR : (α 0 1).toNatClampNeg = aR α := rfl
    rw [eR]
    obtain ⟨⟨vc, vw, vr, vh, vt, vi, vs, vx⟩, vd⟩ := h
    have e : ∀ r, r ≠ 0 → r ≠ 2 → r ≠ 3 → (mset (mset (mset α 2 (aR α) x1) 3 (aR α) x2) 0 1 (α 0 1 + 1)) r = α r := fun r h1 h2 h3 => by
      rw [mset_ne h1, mset_ne h3, mset_ne h2]
    have e0 : ∀ k, k ≠ 1 → (mset (mset (mset α 2 (aR α) x1) 3 (aR α) x2) 0 1 (α 0 1 + 1)) 0 k = α 0 k := fun k h => by
      rw [mset_other (by omega), mset_other (by omega), mset_other (by omega)]
    have n : ∀ r, r ≠ 10 → r ≠ 20 → r ≠ 21 → (mset (mset (mset μ 20 (aR α) x1) 21 (aR α) x2) 10 10 (α 0 1 + 1)) r = μ r := fun r h1 h2 h3 => by
      rw [mset_ne h1, mset_ne h3, mset_ne h2]
    have n0 : ∀ k, k ≠ 10 → (mset (mset (mset μ 20 (aR α) x1) 21 (aR α) x2) 10 10 (α 0 1 + 1)) 10 k = μ 10 k := fun k h => by
      rw [mset_other (by omega), mset_other (by omega), mset_other (by omega)]
    have eaR : aR (mset (mset (mset α 2 (aR α) x1) 3 (aR α) x2) 0 1 (α 0 1 + 1)) = aR α + 1 := by
      show (mset (mset (mset α 2 (aR α) x1) 3 (aR α) x2) 0 1 (α 0 1 + 1) 0 1).toNatClampNeg = _
      rw [mset_same, hR, add1, ix_nI (by omega)]
    refine ⟨hv, hv, ?_, ⟨⟨⟨?_, ?_, ?_, ?_, ?_⟩, vw.eq (e 1 (by omega) (by omega) (by omega)) (fun a _ => n (12 + a) (by omega) (by omega) (by omega)), ?_, vh.eq hf.1 (e0 0 (by omega)) (fun f _ i _ => by rw [e (4 + f) (by omega) (by omega) (by omega)]) (fun i _ f _ => by rw [n (43 + i) (by omega) (by omega) (by omega)]), vt.eq (e0 4 (by omega)) (e 10 (by omega) (by omega) (by omega)) (n 25 (by omega) (by omega) (by omega)), vi.eq (e 11 (by omega) (by omega) (by omega)) (e 12 (by omega) (by omega) (by omega)) (e 13 (by omega) (by omega) (by omega)) (n 32 (by omega) (by omega) (by omega)) (fun a _ => n (34 + a) (by omega) (by omega) (by omega)) (n 41 (by omega) (by omega) (by omega)), vs.eq (e 14 (by omega) (by omega) (by omega)) (e 15 (by omega) (by omega) (by omega)) (e 16 (by omega) (by omega) (by omega)) (fun a _ _ => n a (by omega) (by omega) (by omega)), vx.eq hf.1 (e0 2 (by omega)) (e 17 (by omega) (by omega) (by omega)) (e 18 (by omega) (by omega) (by omega)) (fun a _ _ => n a (by omega) (by omega) (by omega))⟩, ?_⟩, fun a ha => n a (by omega) (by omega) (by omega)⟩
    · rw [show α 0 1 + 1 - 1 = α 0 1 from by rw [Int32.add_sub_cancel]]
    · rw [n0 9 (by omega), e0 0 (by omega)]; exact vc.1
    · rw [mset_same, mset_same]
    · rw [n0 11 (by omega), e0 2 (by omega)]; exact vc.2.2.1
    · rw [n0 12 (by omega), e0 3 (by omega)]; exact vc.2.2.2.1
    · rw [n 24 (by omega) (by omega) (by omega), e0 4 (by omega)]; exact vc.2.2.2.2
    · intro i hi
      rw [eaR] at hi
      by_cases hi' : i = aR α
      · subst hi'
        constructor <;> simp (disch := omega) only [mset_same, mset_other]
      · rw [mset_other (by omega), mset_other (by omega), mset_other (by omega), mset_other (by omega), mset_other (by omega), mset_other (by omega), mset_other (by omega), mset_other (by omega), mset_other (by omega), mset_other (by omega), mset_other (by omega), mset_other (by omega)]
        exact vr i (by omega)
    · exact fun i hi p hp => (vd.eq (e0 0 (by omega)) (e0 3 (by omega)) (e 1 (by omega) (by omega) (by omega)) (fun f _ => e (4 + f) (by omega) (by omega) (by omega)) (e 17 (by omega) (by omega) (by omega)) (e 18 (by omega) (by omega) (by omega)) hf.1 (fun i _ f _ => by rw [n (43 + i) (by omega) (by omega) (by omega)])) i hi p hp
  · rw [cR] at d
    have e1 : sp_ride α x1 x2 = -4 := by unfold sp_ride; rw [if_pos c, if_neg d]
    have e2 : sq_ride α x1 x2 = α := by unfold sq_ride; rw [if_neg (fun q => d q.2)]
    rw [e1, e2]
    exact ⟨rfl, h, hk⟩
  · have e1 : sp_ride α x1 x2 = -2 := by unfold sp_ride; rw [if_neg (by rw [c]; decide)]
    have e2 : sq_ride α x1 x2 = α := by unfold sq_ride; rw [if_neg (by rw [c]; simp)]
    rw [e1, e2]
    exact ⟨rfl, h, hk⟩
