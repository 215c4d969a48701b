/-! ===== the class's public methods: image, back ===== -/
def imA (α : Mem) : Mem := fun r k => if r = 11 then (if k = 0 then 1 else if k = 1 then α 0 0 else if k = 2 then α 0 1 else if k = 3 then α 0 3 else α 11 k) else if r = 12 then α 1 k else if r = 13 then α 9 k else α r k
theorem imA_row {α : Mem} {r : Nat} (h : r < 11 ∨ 13 < r) : imA α r = α r := by
  funext k
  unfold imA
  rw [if_neg (by omega), if_neg (by omega), if_neg (by omega)]
theorem imA_at (α : Mem) : imA α 11 0 = 1 ∧ imA α 11 1 = α 0 0 ∧ imA α 11 2 = α 0 1 ∧ imA α 11 3 = α 0 3 ∧ imA α 12 = α 1 ∧ imA α 13 = α 9 := ⟨rfl, rfl, rfl, rfl, rfl, rfl⟩
theorem wf_image {α : Mem} (hf : WF α) : WF (imA α) := by
  obtain ⟨wc, ww, wr, wh, wt, wx, wi, ws⟩ := hf
  have e : ∀ r, (r < 11 ∨ 13 < r) → imA α r = α r := fun r h => imA_row h
  obtain ⟨i0, i1, i2, i3, i4, i5⟩ := imA_at α
  have eN : aN (imA α) = aN α := by unfold aN; rw [e 0 (by omega)]
  have eR : aR (imA α) = aR α := by unfold aR; rw [e 0 (by omega)]
  have eX : aX (imA α) = aX α := by unfold aX; rw [e 0 (by omega)]
  refine ⟨wc.eq (fun k _ => by rw [e 0 (by omega)]), ww.eq (e 1 (by omega)), wr.eq (by rw [e 0 (by omega)]) (e 2 (by omega)) (e 3 (by omega)), wh.eq wc (by rw [e 0 (by omega)]) (fun f _ i _ => by rw [e (4 + f) (by omega)]), wt.eq (by rw [e 0 (by omega)]) (e 10 (by omega)), wx.eq (by rw [e 0 (by omega)]) (e 17 (by omega)) (e 18 (by omega)), Or.inr ⟨i0, ⟨aN α, ?_, ?_, fun h hh => ?_⟩, ⟨aR α, ?_, ?_⟩, ⟨aL α, ?_, ?_⟩, ?_⟩, ws.eq (e 14 (by omega)) (e 15 (by omega))⟩
  · rw [eN]; exact Nat.le_refl _
  · rw [i1]; exact wc.1.1
  · rw [i5]; exact (wh h hh).2.2.2.2.2.2
  · rw [eR]; exact Nat.le_refl _
  · rw [i2]; exact wc.2.1.1
  · rw [eX]; exact wc.2.2.2.1.2
  · rw [i3]; exact wc.2.2.2.1.1
  · intro a b ha hb hab
    rw [i4]
    exact ww a b ha hb hab
/-- the class's image, all but the ready ones from i on -/
def imgX (α μ : Mem) (i : Nat) (ν : Mem) : Prop := (∀ a, a < 32 ∨ 41 < a → ν a = μ a) ∧ ν 33 = μ 33 ∧ ν 32 2 = 1 ∧ ν 32 3 = α 0 0 ∧ ν 32 4 = α 0 1 ∧ ν 32 5 = α 0 3 ∧ (∀ a b, a < 7 → b < 7 → ν (34 + a) b = α 1 (7 * a + b)) ∧ ∀ h, h < i → ν 41 h = α 9 h
theorem sg_X7_image_0 {G : GW} {K : Option Value → Mem → Prop} {μ : Mem}   (h : Ev2 G mX7_image 3 57 [(0, .ref 10), (1, .int 0)] [] (cpyW (mset (mset (mset (mset μ 32 2 1) 32 3 (μ 10 9)) 32 4 (μ 10 10)) 32 5 (μ 10 12)) 11 33 7) K) : Ev2 G mX7_image 3 0 [(0, .ref 10)] [] μ K := by
  refine ev_aload_n dX7_image_0 0 rfl (by decide) ?_
  refine ev_getR' fl_7_50 rfl kd_10 rf_10_7 dX7_image_1 ?_
  refine ev_iconst (v := 1) dX7_image_4 rfl ?_
  refine ev_putI fl_7_269 ⟨rfl, rfl, rfl⟩ (fun r hr => by cases hr; rfl) kd_32 dX7_image_5 ?_
  refine ev_aload_n dX7_image_8 0 rfl (by decide) ?_
  refine ev_getR' fl_7_50 rfl kd_10 rf_10_7 dX7_image_9 ?_
  refine ev_aload_n dX7_image_12 0 rfl (by decide) ?_
  refine ev_getI' (v := (μ 10 9)) fl_7_60 rfl kd_10 rfl dX7_image_13 ?_
  refine ev_putI fl_7_273 ⟨rfl, rfl, rfl⟩ (fun r hr => by cases hr; rfl) kd_32 dX7_image_16 ?_
  refine ev_aload_n dX7_image_19 0 rfl (by decide) ?_
  refine ev_getR' fl_7_50 rfl kd_10 rf_10_7 dX7_image_20 ?_
  refine ev_aload_n dX7_image_23 0 rfl (by decide) ?_
  refine ev_getI' (v := (μ 10 10)) fl_7_64 rfl kd_10 rfl dX7_image_24 ?_
  refine ev_putI fl_7_274 ⟨rfl, rfl, rfl⟩ (fun r hr => by cases hr; rfl) kd_32 dX7_image_27 ?_
  refine ev_aload_n dX7_image_30 0 rfl (by decide) ?_
  refine ev_getR' fl_7_50 rfl kd_10 rf_10_7 dX7_image_31 ?_
  refine ev_aload_n dX7_image_34 0 rfl (by decide) ?_
  refine ev_getI' (v := (μ 10 12)) fl_7_70 rfl kd_10 rfl dX7_image_35 ?_
  refine ev_putI fl_7_275 ⟨rfl, rfl, rfl⟩ (fun r hr => by cases hr; rfl) kd_32 dX7_image_38 ?_
  refine ev_aload_n dX7_image_41 0 rfl (by decide) ?_
  refine ev_getR' fl_7_11 rfl kd_10 rf_10_0 dX7_image_42 ?_
  refine ev_aload_n dX7_image_45 0 rfl (by decide) ?_
  refine ev_getR' fl_7_50 rfl kd_10 rf_10_7 dX7_image_46 ?_
  refine ev_getR' fl_7_276 rfl kd_32 rf_32_0 dX7_image_49 ?_
  refine e2_callSv (μ1 := (cpyW (mset (mset (mset (mset μ 32 2 1) 32 3 (μ 10 9)) 32 4 (μ 10 10)) 32 5 (μ 10 12)) 11 33 7)) (as := [.ref 11, .ref 33]) (st := []) ok_X7_copyWalks sv_X7_copyWalks ml_7_277 dX7_image_52 rfl rfl (Nat.le_of_ble_eq_true rfl) (Nat.le_of_ble_eq_true rfl) (by decide) (ct_X7_copyWalks 11 (Or.inl rfl) 33 (Or.inr rfl) (mset (mset (mset (mset μ 32 2 1) 32 3 (μ 10 9)) 32 4 (μ 10 10)) 32 5 (μ 10 12))) ?_
  refine ev_iconst (v := 0) dX7_image_55 rfl ?_
  refine ev_istore_n (lv' := [(0, .ref 10), (1, .int 0)]) dX7_image_56 (by decide) [1, 0] rfl ?_
  exact h
theorem sg_X7_image_57 {G : GW} {K : Option Value → Mem → Prop} {μ : Mem} {x1 : Int32}  (h : (((μ 10 9) ≤ x1) → K (some (.int (μ 10 9))) μ) ∧ ((¬ ((μ 10 9) ≤ x1)) → (vp_in x1 7) ∧ (vp_in x1 7) ∧ Ev2 G mX7_image 3 57 [(0, .ref 10), (1, .int (x1 + 1))] [] (mset μ 41 x1.toNatClampNeg (μ (43 + x1.toNatClampNeg) 5)) K)) : Ev2 G mX7_image 3 57 [(0, .ref 10), (1, .int x1)] [] μ K := by
  refine ev_iload_n dX7_image_57 1 rfl ?_
  refine ev_aload_n dX7_image_58 0 rfl (by decide) ?_
  refine ev_getI' (v := (μ 10 9)) fl_7_60 rfl kd_10 rfl dX7_image_59 ?_
  refine ev_icmp_ge (tgt := 89) dX7_image_62 rfl (fun c1 => ?_) (fun c1 => ?_)
  · have h2 := h.1 c1
    refine ev_aload_n dX7_image_89 0 rfl (by decide) ?_
    refine ev_getI' (v := (μ 10 9)) fl_7_60 rfl kd_10 rfl dX7_image_90 ?_
    exact ev_ireturn dX7_image_93 rfl True.intro rfl rfl ⟨rfl, h2⟩
  · have h3 := h.2 c1
    refine ev_aload_n dX7_image_65 0 rfl (by decide) ?_
    refine ev_getR' fl_7_50 rfl kd_10 rf_10_7 dX7_image_66 ?_
    refine ev_getR' fl_7_281 rfl kd_32 rf_32_1 dX7_image_69 ?_
    refine ev_iload_n dX7_image_72 1 rfl ?_
    refine ev_aload_n dX7_image_73 0 rfl (by decide) ?_
    refine ev_getR' fl_7_16 rfl kd_10 rf_10_1 dX7_image_74 ?_
    refine ev_iload_n dX7_image_77 1 rfl ?_
    have p4 := h3.1
    have h5 := h3.2
    refine ev_aaload' (k := 5) kd_19 (by omega) ln_19 p4 (raH p4) dX7_image_78 ?_
    refine ev_getI' (v := (μ (43 + x1.toNatClampNeg) 5)) fl_7_148 rfl (kdHo (isH p4)) rfl dX7_image_79 ?_
    have p6 := h5.1
    have h7 := h5.2
    refine ev_iastore' (j := x1.toNatClampNeg) kd_41 ln_41 p6 rfl dX7_image_82 ?_
    refine ev_iinc (v := (x1 + 1)) (lv' := [(0, .ref 10), (1, .int (x1 + 1))]) dX7_image_83 1 rfl rfl (by decide) [1, 0] rfl ?_
    refine ev_goto (tgt := 57) dX7_image_86 rfl ?_
    exact h7
theorem lp_X7_image {G : GW} {α μ : Mem} (hf : WF α) (h : VX α μ) : ∀ j i (ν : Mem), i + j = aN α → imgX α μ i ν → Ev2 G mX7_image 3 57 [(0, .ref 10), (1, .int (nI i))] [] ν (fun v μ' => v = some (.int (α 0 0)) ∧ VX (imA α) μ' ∧ keepM μ μ') := by
  have hn7 := hf.1.1.2
  have hN : α 0 0 = nI (aN α) := hf.1.1.1
  intro j
  induction j with
  | zero =>
    intro i ν hi q
    obtain rfl : i = aN α := by omega
    have c9 : ν 10 9 = α 0 0 := by rw [q.1 10 (by omega)]; exact h.1.1.1
    refine sg_X7_image_57 ⟨fun _ => ⟨by rw [c9], ?_, fun a ha => q.1 a (by omega)⟩, fun c => ?_⟩
    · obtain ⟨⟨vc, vw, vr, vh, vt, vi, vs, vx⟩, vd⟩ := h
      obtain ⟨n, -, q2, q3, q4, q5, q6, q7⟩ := q
      have e : ∀ r, (r < 11 ∨ 13 < r) → imA α r = α r := fun r h => imA_row h
      obtain ⟨i0, i1, i2, i3, i4, i5⟩ := imA_at α
      have e0 : ∀ k, k < 5 → imA α 0 k = α 0 k := fun k _ => by rw [e 0 (by omega)]
      refine ⟨⟨vc.eq e0 (fun k _ _ => by rw [n 10 (by omega)]) (by rw [n 24 (by omega)]), ?_, ?_, ?_, ?_, ⟨?_, fun _ => ⟨⟨?_, ?_, ?_⟩, fun a b ha hb => ?_, fun h hh => ?_⟩⟩, ?_, ?_⟩, ?_⟩
      · exact vw.eq (e 1 (by omega)) (fun a _ => n (12 + a) (by omega))
      · exact vr.eq (e0 1 (by omega)) (e 2 (by omega)) (e 3 (by omega)) (n 20 (by omega)) (n 21 (by omega))
      · exact vh.eq hf.1 (e0 0 (by omega)) (fun f _ i _ => by rw [e (4 + f) (by omega)]) (fun i _ f _ => by rw [n (43 + i) (by omega)])
      · exact vt.eq (e0 4 (by omega)) (e 10 (by omega)) (n 25 (by omega))
      · rw [q2, i0]
      · rw [q3, i1]
      · rw [q4, i2]
      · rw [q5, i3]
      · rw [i4]
        exact q6 a b ha hb
      · rw [i5]
        rw [i1] at hh
        exact q7 h hh
      · exact vs.eq (e 14 (by omega)) (e 15 (by omega)) (e 16 (by omega)) (fun a _ _ => n a (by omega))
      · exact vx.eq hf.1 (e0 2 (by omega)) (e 17 (by omega)) (e 18 (by omega)) (fun a _ _ => n a (by omega))
      · exact vd.eq (e0 0 (by omega)) (e0 3 (by omega)) (e 1 (by omega)) (fun f _ => e (4 + f) (by omega)) (e 17 (by omega)) (e 18 (by omega)) hf.1 (fun i _ f _ => by rw [n (43 + i) (by omega)])
    · rw [c9, hN] at c
      exact absurd (nI_le (Nat.le_refl _) (by omega)) c
  | succ j ih =>
    intro i ν hi q
    have c9 : ν 10 9 = α 0 0 := by rw [q.1 10 (by omega)]; exact h.1.1.1
    refine sg_X7_image_57 ⟨fun c => ?_, fun _ => ⟨vp_nI (by omega) (by omega), vp_nI (by omega) (by omega), ?_⟩⟩
    · rw [c9, hN] at c
      exact absurd c (nI_ge (by omega) (by omega))
    · rw [ix_nI (by omega)]
      have e5 : ν (43 + i) 5 = α 9 i := by
        rw [q.1 (43 + i) (by omega)]
        exact h.1.2.2.2.1 i (by omega) 5 (by omega)
      rw [e5]
      have hh := ih (i + 1) (mset ν 41 i (α 9 i)) (by omega) (by
        obtain ⟨n, q1, q2, q3, q4, q5, q6, q7⟩ := q
        refine ⟨fun a ha => by rw [mset_ne (by omega)]; exact n a ha, by rw [mset_ne (by omega)]; exact q1, by rw [mset_ne (by omega)]; exact q2, by rw [mset_ne (by omega)]; exact q3, by rw [mset_ne (by omega)]; exact q4, by rw [mset_ne (by omega)]; exact q5, fun a b ha hb => by rw [mset_ne (by omega)]; exact q6 a b ha hb, fun x hx => ?_⟩
        by_cases c : x = i
        · rw [c, mset_same]
        · rw [mset_other (by omega)]
          exact q7 x (by omega))
      rw [← nI_1] at hh
      exact hh
theorem cpyW_at {μ : Mem} {r s : Nat} {a b : Nat} (ha : a < 7) (hb : b < 7) : cpyW μ r s 7 (s + 1 + a) b = μ (r + 1 + a) b := by
  unfold cpyW
  rw [if_pos (by omega)]
  congr 1
  omega
theorem cpyW_row {μ : Mem} {r s n a : Nat} (h : a < s + 1 ∨ s + n < a) : cpyW μ r s n a = μ a := by
  funext k
  unfold cpyW
  rw [if_neg (by omega)]
theorem pb_X7_image {G : GW} {α μ : Mem} (hf : WF α) (h : VX α μ) : pubX G mX7_image 3 [(0, .ref 10)] α μ (.int (α 0 0)) (imA α) := by
  refine sg_X7_image_0 ?_
  refine lp_X7_image hf h (aN α) 0 _ (by omega) ⟨fun a ha => ?_, ?_, ?_, ?_, ?_, ?_, fun a b ha hb => ?_, fun x hx => absurd hx (by omega)⟩
  · rw [cpyW_row (by omega), mset_ne (by omega), mset_ne (by omega), mset_ne (by omega), mset_ne (by omega)]
  · rw [cpyW_row (by omega), mset_ne (by omega), mset_ne (by omega), mset_ne (by omega), mset_ne (by omega)]
  · rw [cpyW_row (by omega), mset_other (by omega), mset_other (by omega), mset_other (by omega), mset_same]
  · rw [cpyW_row (by omega), mset_other (by omega), mset_other (by omega), mset_same]
    exact h.1.1.1
  · rw [cpyW_row (by omega), mset_other (by omega), mset_same]
    exact h.1.1.2.1
  · rw [cpyW_row (by omega), mset_same]
    exact h.1.1.2.2.2.1
  · rw [show 34 + a = 33 + 1 + a by omega, cpyW_at ha hb, mset_ne (by omega), mset_ne (by omega), mset_ne (by omega), mset_ne (by omega), show 11 + 1 + a = 12 + a by omega]
    exact h.1.2.1 a b ha hb
/-! back -/
def baA (α : Mem) : Mem := fun r k => if r = 0 then (if k = 0 then α 11 1 else if k = 1 then α 11 2 else if k = 3 then α 11 3 else α 0 k) else if r = 1 then α 12 k else if r = 9 then α 13 k else α r k
theorem baA_row {α : Mem} {r : Nat} (h : r ≠ 0 ∧ r ≠ 1 ∧ r ≠ 9) : baA α r = α r := by
  funext k
  unfold baA
  rw [if_neg (by omega), if_neg (by omega), if_neg (by omega)]
theorem baA_at (α : Mem) : baA α 0 0 = α 11 1 ∧ baA α 0 1 = α 11 2 ∧ baA α 0 2 = α 0 2 ∧ baA α 0 3 = α 11 3 ∧ baA α 0 4 = α 0 4 ∧ baA α 1 = α 12 ∧ baA α 9 = α 13 := ⟨rfl, rfl, rfl, rfl, rfl, rfl, rfl⟩
def sp_back (α : Mem) : Int32 := if α 11 0 = 0 then -3 else α 11 1
def sq_back (α : Mem) : Mem := if α 11 0 = 0 then α else baA α
theorem img_in {α : Mem} (hf : WF α) (h : ¬ α 11 0 = 0) : α 11 0 = 1 ∧ (∃ n, n ≤ aN α ∧ α 11 1 = nI n ∧ ∀ h, h < n → ∃ r, r ≤ 999 ∧ α 13 h = nI r) ∧ (∃ r, r ≤ aR α ∧ α 11 2 = nI r) ∧ (∃ l, l < aX α ∧ α 11 3 = nI l) ∧ wfW 12 α := hf.2.2.2.2.2.2.1.resolve_left h
theorem wf_baA {α : Mem} (hf : WF α) (h : ¬ α 11 0 = 0) : WF (baA α) := by
  obtain ⟨c0, ⟨n, hn, en, hr⟩, ⟨r, hr4, er⟩, ⟨l, hl, el⟩, hw⟩ := img_in hf h
  obtain ⟨wc, ww, wr, wh, wt, wx, wi, ws⟩ := hf
  have hn7 := wc.1.2
  have hr7 := wc.2.1.2
  have hx7 := wc.2.2.1.2
  have e : ∀ r, (r ≠ 0 ∧ r ≠ 1 ∧ r ≠ 9) → baA α r = α r := fun r h => baA_row h
  obtain ⟨i0, i1, i2, i3, i4, i5, i6⟩ := baA_at α
  have eN : aN (baA α) = n := by unfold aN; rw [i0, en, ix_nI (by omega)]
  have eR : aR (baA α) = r := by unfold aR; rw [i1, er, ix_nI (by omega)]
  have eX : aX (baA α) = aX α := by unfold aX; rw [i2]
  have eL : aL (baA α) = l := by unfold aL; rw [i3, el, ix_nI (by omega)]
  have eT : aT (baA α) = aT α := by unfold aT; rw [i4]
  refine ⟨⟨?_, ?_, ?_, ?_, ?_⟩, ?_, ?_, ?_, wt.eq i4 (e 10 (by omega)), wx.eq i2 (e 17 (by omega)) (e 18 (by omega)), ?_, ws.eq (e 14 (by omega)) (e 15 (by omega))⟩
  · rw [eN, i0]; exact ⟨en, by omega⟩
  · rw [eR, i1]; exact ⟨er, by omega⟩
  · rw [eX, i2]; exact wc.2.2.1
  · rw [eL, eX, i3]; exact ⟨el, hl⟩
  · rw [eT, i4]; exact wc.2.2.2.2
  · intro a b ha hb hab
    rw [i5]
    exact hw a b ha hb hab
  · intro i hi
    rw [eR] at hi
    rw [e 2 (by omega), e 3 (by omega)]
    exact wr i (by omega)
  · intro i hi
    rw [eN] at hi
    obtain ⟨h1, h2, h3, h4, h5, h6, h7⟩ := wh i (by omega)
    unfold wfH1
    rw [e 4 (by omega), e 5 (by omega), e 6 (by omega), e 7 (by omega), e 8 (by omega), i6]
    exact ⟨h1, h2, h3, h4, h5, h6, hr i hi⟩
  · refine Or.inr ?_
    rw [e 11 (by omega), e 13 (by omega)]
    refine ⟨c0, ⟨n, by rw [eN]; exact Nat.le_refl _, en, hr⟩, ⟨r, by rw [eR]; exact Nat.le_refl _, er⟩, ⟨l, by rw [eX]; exact hl, el⟩, hw.eq (e 12 (by omega))⟩
theorem wf_back {α : Mem} (hf : WF α) : WF (sq_back α) := by
  unfold sq_back
  split
  · exact hf
  · rename_i c
    exact wf_baA hf c
/-- the class on its way back: horses and rides and walks are as they were, ready ones below i -/
def bckX (α μ : Mem) (i : Nat) (ν : Mem) : Prop := (∀ a, a ≠ 10 ∧ ¬ (12 ≤ a ∧ a ≤ 18) ∧ ¬ (43 ≤ a ∧ a ≤ 49) → ν a = μ a) ∧ (∀ k, k ≠ 9 ∧ k ≠ 10 → ν 10 k = μ 10 k) ∧ ν 10 9 = α 11 1 ∧ ν 10 10 = α 11 2 ∧ (∀ a b, a < 7 → b < 7 → ν (12 + a) b = α 12 (7 * a + b)) ∧ (∀ a, a < 7 → ∀ k, k ≠ 5 → ν (43 + a) k = μ (43 + a) k) ∧ ∀ h, h < i → ν (43 + h) 5 = α 13 h
theorem sg_X7_back_0 {G : GW} {K : Option Value → Mem → Prop} {μ : Mem}   (h : ((¬ (μ 32 2) = 0) → Ev2 G mX7_back 7 51 [(0, .ref 10), (1, .int 0)] [] (cpyW (mset (mset μ 10 9 (μ 32 3)) 10 10 (μ 32 4)) 33 11 7) K) ∧ (((μ 32 2) = 0) → K (some (.int (-3))) μ)) : Ev2 G mX7_back 7 0 [(0, .ref 10)] [] μ K := by
  refine ev_aload_n dX7_back_0 0 rfl (by decide) ?_
  refine ev_getR' fl_7_50 rfl kd_10 rf_10_7 dX7_back_1 ?_
  refine ev_getI' (v := (μ 32 2)) fl_7_269 rfl kd_32 rfl dX7_back_4 ?_
  refine ev_if_ne (tgt := 13) dX7_back_7 rfl (fun c1 => ?_) (fun c1 => ?_)
  · have h2 := h.1 c1
    refine ev_aload_n dX7_back_13 0 rfl (by decide) ?_
    refine ev_aload_n dX7_back_14 0 rfl (by decide) ?_
    refine ev_getR' fl_7_50 rfl kd_10 rf_10_7 dX7_back_15 ?_
    refine ev_getI' (v := (μ 32 3)) fl_7_273 rfl kd_32 rfl dX7_back_18 ?_
    refine ev_putI fl_7_60 ⟨rfl, rfl, rfl⟩ (fun r hr => by cases hr; rfl) kd_10 dX7_back_21 ?_
    refine ev_aload_n dX7_back_24 0 rfl (by decide) ?_
    refine ev_aload_n dX7_back_25 0 rfl (by decide) ?_
    refine ev_getR' fl_7_50 rfl kd_10 rf_10_7 dX7_back_26 ?_
    refine ev_getI' (v := (μ 32 4)) fl_7_274 rfl kd_32 rfl dX7_back_29 ?_
    refine ev_putI fl_7_64 ⟨rfl, rfl, rfl⟩ (fun r hr => by cases hr; rfl) kd_10 dX7_back_32 ?_
    refine ev_aload_n dX7_back_35 0 rfl (by decide) ?_
    refine ev_getR' fl_7_50 rfl kd_10 rf_10_7 dX7_back_36 ?_
    refine ev_getR' fl_7_276 rfl kd_32 rf_32_0 dX7_back_39 ?_
    refine ev_aload_n dX7_back_42 0 rfl (by decide) ?_
    refine ev_getR' fl_7_11 rfl kd_10 rf_10_0 dX7_back_43 ?_
    refine e2_callSv (μ1 := (cpyW (mset (mset μ 10 9 (μ 32 3)) 10 10 (μ 32 4)) 33 11 7)) (as := [.ref 33, .ref 11]) (st := []) ok_X7_copyWalks sv_X7_copyWalks ml_7_277 dX7_back_46 rfl rfl (Nat.le_of_ble_eq_true rfl) (Nat.le_of_ble_eq_true rfl) (by decide) (ct_X7_copyWalks 33 (Or.inr rfl) 11 (Or.inl rfl) (mset (mset μ 10 9 (μ 32 3)) 10 10 (μ 32 4))) ?_
    refine ev_iconst (v := 0) dX7_back_49 rfl ?_
    refine ev_istore_n (lv' := [(0, .ref 10), (1, .int 0)]) dX7_back_50 (by decide) [1, 0] rfl ?_
    exact h2
  · have h3 := h.2 c1
    refine ev_bipush (v := (-3)) dX7_back_10 rfl ?_
    exact ev_ireturn dX7_back_12 rfl True.intro rfl rfl ⟨rfl, h3⟩
theorem sg_X7_back_51 {G : GW} {K : Option Value → Mem → Prop} {μ : Mem} {x1 : Int32}  (h : (((μ 10 9) ≤ x1) → (hearAllOK (mset μ 10 12 (μ 32 5))) ∧ ∀ μ6 : Mem, (hearAllR (mset μ 10 12 (μ 32 5)) μ6) → K (some (.int (μ6 10 9))) μ6) ∧ ((¬ ((μ 10 9) ≤ x1)) → (vp_in x1 7) ∧ (vp_in x1 7) ∧ Ev2 G mX7_back 7 51 [(0, .ref 10), (1, .int (x1 + 1))] [] (mset μ (43 + x1.toNatClampNeg) 5 (μ 41 x1.toNatClampNeg)) K)) : Ev2 G mX7_back 7 51 [(0, .ref 10), (1, .int x1)] [] μ K := by
  refine ev_iload_n dX7_back_51 1 rfl ?_
  refine ev_aload_n dX7_back_52 0 rfl (by decide) ?_
  refine ev_getI' (v := (μ 10 9)) fl_7_60 rfl kd_10 rfl dX7_back_53 ?_
  refine ev_icmp_ge (tgt := 83) dX7_back_56 rfl (fun c1 => ?_) (fun c1 => ?_)
  · have h2 := h.1 c1
    refine ev_aload_n dX7_back_83 0 rfl (by decide) ?_
    refine ev_aload_n dX7_back_84 0 rfl (by decide) ?_
    refine ev_getR' fl_7_50 rfl kd_10 rf_10_7 dX7_back_85 ?_
    refine ev_getI' (v := (μ 32 5)) fl_7_275 rfl kd_32 rfl dX7_back_88 ?_
    have p4 := h2.1
    have h5 := h2.2
    refine e2_callVrv (Rl := fun μ6 => hearAllR (mset μ 10 12 (μ 32 5)) μ6) (a := 10) (as := [.int (μ 32 5)]) (st := []) ok_X7_setLaw vi_X7_setLaw ml_7_125 hcl_7 kd_10 dX7_back_91 rfl rfl (Nat.le_of_ble_eq_true rfl) (Nat.le_of_ble_eq_true rfl) (by decide) (ct_X7_setLaw ((μ 32 5)) μ p4) (fun μ6 r7 => ?_)
    have h8 := h5 μ6 r7
    refine ev_aload_n dX7_back_94 0 rfl (by decide) ?_
    refine ev_getI' (v := (μ6 10 9)) fl_7_60 rfl kd_10 rfl dX7_back_95 ?_
    exact ev_ireturn dX7_back_98 rfl True.intro rfl rfl ⟨rfl, h8⟩
  · have h3 := h.2 c1
    refine ev_aload_n dX7_back_59 0 rfl (by decide) ?_
    refine ev_getR' fl_7_16 rfl kd_10 rf_10_1 dX7_back_60 ?_
    refine ev_iload_n dX7_back_63 1 rfl ?_
    have p9 := h3.1
    have h10 := h3.2
    refine ev_aaload' (k := 5) kd_19 (by omega) ln_19 p9 (raH p9) dX7_back_64 ?_
    refine ev_aload_n dX7_back_65 0 rfl (by decide) ?_
    refine ev_getR' fl_7_50 rfl kd_10 rf_10_7 dX7_back_66 ?_
    refine ev_getR' fl_7_281 rfl kd_32 rf_32_1 dX7_back_69 ?_
    refine ev_iload_n dX7_back_72 1 rfl ?_
    have p11 := h10.1
    have h12 := h10.2
    refine ev_iaload' (v := (μ 41 x1.toNatClampNeg)) kd_41 ln_41 p11 rfl dX7_back_73 ?_
    refine ev_putI fl_7_148 ⟨rfl, rfl, rfl⟩ (fun r hr => by cases hr; rfl) (kdHo (isH p9)) dX7_back_74 ?_
    refine ev_iinc (v := (x1 + 1)) (lv' := [(0, .ref 10), (1, .int (x1 + 1))]) dX7_back_77 1 rfl rfl (by decide) [1, 0] rfl ?_
    refine ev_goto (tgt := 51) dX7_back_80 rfl ?_
    exact h12
theorem lp_X7_back {G : GW} {α μ : Mem} (hf : WF α) (h : VX α μ) {n : Nat} (c0 : ¬ α 11 0 = 0) (hn : n ≤ aN α) (en : α 11 1 = nI n) : ∀ j i (ν : Mem), i + j = n → bckX α μ i ν → Ev2 G mX7_back 7 51 [(0, .ref 10), (1, .int (nI i))] [] ν (fun v μ' => v = some (.int (α 11 1)) ∧ VX (baA α) μ' ∧ keepM μ μ') := by
  have hn7 := hf.1.1.2
  have c1 := (img_in hf c0).1
  have vi1 := (h.1.2.2.2.2.2.1).2 c1
  have hb := wf_baA hf c0
  intro j
  induction j with
  | zero =>
    intro i ν hi q
    obtain rfl : i = n := by omega
    have c9 : ν 10 9 = α 11 1 := q.2.2.1
    have c32 : ν 32 5 = α 11 3 := by rw [q.1 32 (by omega)]; exact vi1.1.2.2
    refine sg_X7_back_51 ⟨fun _ => ?_, fun c => ?_⟩
    · rw [c32]
      obtain ⟨⟨vc, vw, vr, vh, vt, vi, vs, vx⟩, vd⟩ := h
      obtain ⟨n1, n2, q2, q3, q4, q5, q6⟩ := q
      have e : ∀ r, (r ≠ 0 ∧ r ≠ 1 ∧ r ≠ 9) → baA α r = α r := fun r h => baA_row h
      obtain ⟨i0, i1, i2, i3, i4, i5, i6⟩ := baA_at α
      have n : ∀ a, (a ≠ 10 ∧ ¬ (12 ≤ a ∧ a ≤ 18) ∧ ¬ (43 ≤ a ∧ a ≤ 49)) → mset ν 10 12 (α 11 3) a = μ a := fun a ha => by
        rw [mset_ne ha.1]
        exact n1 a ha
      have eN : aN (baA α) = i := by unfold aN; rw [i0, en, ix_nI (by omega)]
      have eR : aR (baA α) ≤ aR α := by
        obtain ⟨r, hr4, er⟩ := (img_in hf c0).2.2.1
        have := hf.1.2.1.2
        unfold aR at hr4 ⊢
        rw [i1, er, ix_nI (by unfold aR at this; omega)]
        exact hr4
      have hx : VX0 (baA α) (mset ν 10 12 (α 11 3)) := by
        refine ⟨⟨?_, ?_, ?_, ?_, ?_⟩, ?_, ?_, ?_, vt.eq i4 (e 10 (by omega)) (n 25 (by omega)), vi.eq (e 11 (by omega)) (e 12 (by omega)) (e 13 (by omega)) (n 32 (by omega)) (fun a _ => n (34 + a) (by omega)) (n 41 (by omega)), vs.eq (e 14 (by omega)) (e 15 (by omega)) (e 16 (by omega)) (fun a _ _ => n a (by omega)), ?_⟩
        · rw [mset_other (by omega), i0]; exact q2
        · rw [mset_other (by omega), i1]; exact q3
        · rw [mset_other (by omega), i2, n2 11 (by omega)]; exact vc.2.2.1
        · rw [mset_same, i3]
        · rw [n 24 (by omega), i4]; exact vc.2.2.2.2
        · intro a b ha hb
          rw [mset_ne (by omega), i5]
          exact q4 a b ha hb
        · intro r hr
          rw [n 20 (by omega), n 21 (by omega), e 2 (by omega), e 3 (by omega)]
          exact vr r (by omega)
        · intro x hx f hf6
          rw [eN] at hx
          rw [mset_ne (by omega)]
          by_cases c : f = 5
          · subst c
            have : baA α (4 + 5) x = α 13 x := congrFun i6 x
            rw [this]
            exact q6 x hx
          · rw [q5 x (by omega) f c, e (4 + f) (by omega)]
            exact vh x (by omega) f hf6
        · exact vx.eq hf.1 i2 (e 17 (by omega)) (e 18 (by omega)) (fun a _ _ => n a (by omega))
      refine ⟨hx.hear hb, fun ξ hξ => ?_⟩
      have h2 := hx.heard hb hξ
      refine ⟨?_, h2, ?_⟩
      · rw [h2.1.1.1, i0]
      · intro a ha
        rw [keepM.of_hearS hξ.1 a ha, n a (by omega)]
    · rw [c9, en] at c
      exact absurd (nI_le (Nat.le_refl _) (by omega)) c
  | succ j ih =>
    intro i ν hi q
    have c9 : ν 10 9 = α 11 1 := q.2.2.1
    refine sg_X7_back_51 ⟨fun c => ?_, fun _ => ⟨vp_nI (by omega) (by omega), vp_nI (by omega) (by omega), ?_⟩⟩
    · rw [c9, en] at c
      exact absurd c (nI_ge (by omega) (by omega))
    · rw [ix_nI (by omega)]
      have e5 : ν 41 i = α 13 i := by
        rw [q.1 41 (by omega)]
        exact vi1.2.2 i (by rw [en, ix_nI (by omega)]; omega)
      rw [e5]
      have hh := ih (i + 1) (mset ν (43 + i) 5 (α 13 i)) (by omega) (by
        obtain ⟨n1, n2, q2, q3, q4, q5, q6⟩ := q
        refine ⟨fun a ha => by rw [mset_ne (by omega)]; exact n1 a ha, fun k hk => by rw [mset_ne (by omega)]; exact n2 k hk, by rw [mset_ne (by omega)]; exact q2, by rw [mset_ne (by omega)]; exact q3, fun a b ha hb => by rw [mset_ne (by omega)]; exact q4 a b ha hb, fun a ha k hk => by rw [mset_other (by omega)]; exact q5 a ha k hk, fun x hx => ?_⟩
        by_cases c : x = i
        · rw [c, mset_same]
        · rw [mset_other (by omega)]
          exact q6 x (by omega))
      rw [← nI_1] at hh
      exact hh
theorem pb_X7_back {G : GW} {α μ : Mem} (hf : WF α) (h : VX α μ) : pubX G mX7_back 7 [(0, .ref 10)] α μ (.int (sp_back α)) (sq_back α) := by
  have e2 : μ 32 2 = α 11 0 := h.1.2.2.2.2.2.1.1
  refine sg_X7_back_0 ?_
  rw [e2]
  unfold sp_back sq_back
  refine ⟨fun c => ?_, fun c => ?_⟩
  · rw [if_neg c, if_neg c]
    obtain ⟨c0, ⟨n, hn, en, hr⟩, -⟩ := img_in hf c
    have vi1 := (h.1.2.2.2.2.2.1).2 c0
    refine lp_X7_back hf h c hn en n 0 _ (by omega) ⟨fun a ha => ?_, fun k hk => ?_, ?_, ?_, fun a b ha hb => ?_, fun a ha k hk => ?_, fun x hx => absurd hx (by omega)⟩
    · rw [cpyW_row (by omega), mset_ne (by omega), mset_ne (by omega)]
    · rw [cpyW_row (by omega), mset_other (by omega), mset_other (by omega)]
    · rw [cpyW_row (by omega), mset_other (by omega), mset_same]
      exact vi1.1.1
    · rw [cpyW_row (by omega), mset_same]
      exact vi1.1.2.1
    · rw [show 12 + a = 11 + 1 + a by omega, cpyW_at ha hb, mset_ne (by omega), mset_ne (by omega), show 33 + 1 + a = 34 + a by omega]
      exact vi1.2.1 a b ha hb
    · rw [cpyW_row (by omega), mset_ne (by omega), mset_ne (by omega)]
  · rw [if_pos c, if_pos c]
    exact ⟨rfl, h, keepM.rf μ⟩
