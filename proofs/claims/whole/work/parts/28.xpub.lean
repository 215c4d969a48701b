/-! ===== the view, piece by piece ===== -/
theorem mset_ne {μ : Mem} {a k b : Nat} {x : Int32} (h : b ≠ a) : mset μ a k x b = μ b := by
  funext j
  exact mset_other (fun q => h q.1)
theorem vXc.eq {α β μ ν : Mem} (h : vXc α μ) (h0 : ∀ k, k < 5 → β 0 k = α 0 k) (n : ∀ k, 9 ≤ k → k ≤ 12 → ν 10 k = μ 10 k) (t : ν 24 1 = μ 24 1) : vXc β ν := by
  obtain ⟨c1, c2, c3, c4, c5⟩ := h
  exact ⟨by rw [n 9 (by omega) (by omega), h0 0 (by omega)]; exact c1, by rw [n 10 (by omega) (by omega), h0 1 (by omega)]; exact c2, by rw [n 11 (by omega) (by omega), h0 2 (by omega)]; exact c3, by rw [n 12 (by omega) (by omega), h0 3 (by omega)]; exact c4, by rw [t, h0 4 (by omega)]; exact c5⟩
theorem vXw.eq {α β μ ν : Mem} (h : vXw α μ) (e : β 1 = α 1) (n : ∀ a, a < 7 → ν (12 + a) = μ (12 + a)) : vXw β ν := fun a b ha hb => by rw [e, n a ha]; exact h a b ha hb
theorem vXr.eq {α β μ ν : Mem} (h : vXr α μ) (e1 : β 0 1 = α 0 1) (e2 : β 2 = α 2) (e3 : β 3 = α 3) (n : ν 20 = μ 20) (n' : ν 21 = μ 21) : vXr β ν := fun i hi => by
  unfold aR at hi
  rw [e1] at hi
  rw [e2, e3, n, n']
  exact h i hi
theorem vXh1.eq {α β μ ν : Mem} {i : Nat} (h : vXh1 α μ i) (e : ∀ f, f < 6 → β (4 + f) i = α (4 + f) i) (n : ∀ f, f < 6 → ν (43 + i) f = μ (43 + i) f) : vXh1 β ν i := fun f hf => by rw [e f hf, n f hf]; exact h f hf
theorem vXh.eq {α β μ ν : Mem} (hf : wfC α) (h : vXh α μ) (e0 : β 0 0 = α 0 0) (e : ∀ f, f < 6 → ∀ i, i < 7 → β (4 + f) i = α (4 + f) i) (n : ∀ i, i < 7 → ∀ f, f < 6 → ν (43 + i) f = μ (43 + i) f) : vXh β ν := fun i hi => by
  unfold aN at hi
  rw [e0] at hi
  have hn : i < 7 := Nat.lt_of_lt_of_le hi hf.1.2
  exact (h i hi).eq (fun f q => e f q i hn) (fun f q => n i hn f q)
theorem vXt.eq {α β μ ν : Mem} (h : vXt α μ) (e0 : β 0 4 = α 0 4) (e : β 10 = α 10) (n : ν 25 = μ 25) : vXt β ν := fun i hi => by
  unfold aT at hi
  rw [e0] at hi
  rw [e, n]
  exact h i hi
theorem vXi.eq {α β μ ν : Mem} (h : vXi α μ) (e : β 11 = α 11) (e1 : β 12 = α 12) (e2 : β 13 = α 13) (n : ν 32 = μ 32) (n1 : ∀ a, a < 7 → ν (34 + a) = μ (34 + a)) (n2 : ν 41 = μ 41) : vXi β ν := by
  unfold vXi
  rw [e, e1, e2, n, n2]
  refine ⟨h.1, fun q => ⟨(h.2 q).1, fun a b ha hb => ?_, (h.2 q).2.2⟩⟩
  rw [n1 a ha]
  exact (h.2 q).2.1 a b ha hb
theorem vXsh.eq {α β μ ν : Mem} (h : vXsh α μ) (e : β 14 = α 14) (e1 : β 15 = α 15) (e2 : β 16 = α 16) (n : ∀ a, 74 ≤ a → a ≤ 81 → ν a = μ a) : vXsh β ν := fun s hs => by
  rw [e, e1, e2, n (74 + 2 * s) (by omega) (by omega), n (75 + 2 * s) (by omega) (by omega)]
  exact h s hs
theorem vXx1.eq {α β μ ν : Mem} {t : Nat} (h : vXx1 α μ t) (e1 : β 17 = α 17) (e2 : β 18 = α 18) (n1 : ν (51 + 4 * t) = μ (51 + 4 * t)) (n2 : ν (52 + 4 * t) = μ (52 + 4 * t)) : vXx1 β ν t := by
  have q := vXx1_row (ν := ν) n1 n2 h
  unfold vXx1 at q ⊢
  rw [e1, e2]
  exact q
theorem vXx.eq {α β μ ν : Mem} (hf : wfC α) (h : vXx α μ) (e0 : β 0 2 = α 0 2) (e1 : β 17 = α 17) (e2 : β 18 = α 18) (n : ∀ a, 51 ≤ a → a ≤ 72 → ν a = μ a) : vXx β ν := fun t ht => by
  unfold aX at ht
  rw [e0] at ht
  have hn : t < 6 := Nat.lt_of_lt_of_le ht hf.2.2.1.2
  exact (h t ht).eq e1 e2 (n _ (by omega) (by omega)) (n _ (by omega) (by omega))
/-! and what is kept well -/
theorem wfC.eq {α β : Mem} (h : wfC α) (e : ∀ k, k < 5 → β 0 k = α 0 k) : wfC β := by
  unfold wfC aN aR aX aL aT at h ⊢
  rw [e 0 (by omega), e 1 (by omega), e 2 (by omega), e 3 (by omega), e 4 (by omega)]
  exact h
theorem wfW.eq {r : Nat} {α β : Mem} (h : wfW r α) (e : β r = α r) : wfW r β := by
  unfold wfW at h ⊢
  rw [e]
  exact h
theorem wfR.eq {α β : Mem} (h : wfR α) (e0 : β 0 1 = α 0 1) (e1 : β 2 = α 2) (e2 : β 3 = α 3) : wfR β := by
  unfold wfR aR at h ⊢
  rw [e0, e1, e2]
  exact h
theorem wfH1.eq {α β : Mem} {i : Nat} (h : wfH1 α i) (e : ∀ f, f < 6 → β (4 + f) i = α (4 + f) i) : wfH1 β i := by
  have e0 : β 4 i = α 4 i := e 0 (by omega)
  have e1 : β 5 i = α 5 i := e 1 (by omega)
  have e2 : β 6 i = α 6 i := e 2 (by omega)
  have e3 : β 7 i = α 7 i := e 3 (by omega)
  have e4 : β 8 i = α 8 i := e 4 (by omega)
  have e5 : β 9 i = α 9 i := e 5 (by omega)
  unfold wfH1
  rw [e0, e1, e2, e3, e4, e5]
  exact h
theorem wfH.eq {α β : Mem} (hf : wfC α) (h : wfH α) (e0 : β 0 0 = α 0 0) (e : ∀ f, f < 6 → ∀ i, i < 7 → β (4 + f) i = α (4 + f) i) : wfH β := fun i hi => by
  unfold aN at hi
  rw [e0] at hi
  exact (h i hi).eq (fun f q => e f q i (Nat.lt_of_lt_of_le hi hf.1.2))
theorem wfT.eq {α β : Mem} (h : wfT α) (e0 : β 0 4 = α 0 4) (e : β 10 = α 10) : wfT β := by
  unfold wfT aT at h ⊢
  rw [e0, e]
  exact h
theorem wfX.eq {α β : Mem} (h : wfX α) (e0 : β 0 2 = α 0 2) (e1 : β 17 = α 17) (e2 : β 18 = α 18) : wfX β := by
  unfold wfX aX at h ⊢
  rw [e0, e1, e2]
  exact h
theorem wfI.eq {α β : Mem} (h : wfI α) (hn : aN α ≤ aN β) (hr : aR α ≤ aR β) (hx : aX α ≤ aX β) (e : β 11 = α 11) (e1 : β 12 = α 12) (e2 : β 13 = α 13) : wfI β := by
  unfold wfI
  rw [e, e2]
  rcases h with q | ⟨q, ⟨n, hn', w1, w2⟩, ⟨r, hr', w3⟩, ⟨l, hl, w4⟩, w5⟩
  · exact Or.inl q
  · exact Or.inr ⟨q, ⟨n, by omega, w1, w2⟩, ⟨r, by omega, w3⟩, ⟨l, by omega, w4⟩, w5.eq e1⟩
theorem wfS.eq {α β : Mem} (h : wfS α) (e : β 14 = α 14) (e1 : β 15 = α 15) : wfS β := by
  unfold wfS at h ⊢
  rw [e, e1]
  exact h
theorem VX.n {α μ : Mem} (hf : WF α) (h : VX0 α μ) : ∃ n, n ≤ 7 ∧ μ 10 9 = nI n := ⟨aN α, hf.1.1.2, h.1.1.trans hf.1.1.1⟩
theorem VX.vH {α μ : Mem} (hf : WF α) (h : VX0 α μ) {x : Int32} (hx : inB x 0 (α 0 0 - 1) = true) : vp_in x 7 ∧ x.toNatClampNeg < aN α ∧ x = nI x.toNatClampNeg := by
  have := hf.1.1.2
  rw [hf.1.1.1] at hx
  obtain ⟨p, hp, rfl⟩ := inB_lt (by omega) hx
  rw [ix_nI (by omega)]
  exact ⟨vp_nI (by omega) (by omega), hp, rfl⟩
theorem VX.vR {α μ : Mem} (hf : WF α) (h : VX0 α μ) {x : Int32} (hx : inB x 0 (α 0 1 - 1) = true) : vp_in x 4 ∧ x.toNatClampNeg < aR α ∧ x = nI x.toNatClampNeg := by
  have := hf.1.2.1.2
  rw [hf.1.2.1.1] at hx
  obtain ⟨p, hp, rfl⟩ := inB_lt (by omega) hx
  rw [ix_nI (by omega)]
  exact ⟨vp_nI (by omega) (by omega), hp, rfl⟩
def keepM (μ ν : Mem) : Prop := ∀ a, 82 ≤ a → ν a = μ a
theorem keepM.rf (μ : Mem) : keepM μ μ := fun _ _ => rfl
theorem keepM.tr {μ ν ξ : Mem} (h1 : keepM μ ν) (h2 : keepM ν ξ) : keepM μ ξ := fun a ha => (h2 a ha).trans (h1 a ha)
theorem keepM.of_sameQ {μ ν : Mem} (h : sameQ μ ν) : keepM μ ν := fun a ha => h a (by omega)
theorem keepM.of_hearS {μ ν : Mem} (h : hearS μ ν) : keepM μ ν := fun a ha => h.2 a (by omega) (TS_no (by omega))
theorem keepM.of_hearR {μ ν : Mem} {o : Nat} (ho : o < 82) (h : hearR μ o ν) : keepM μ ν := fun a ha => h.2.2 a (by omega) (TS_no (by omega))
abbrev pubX (G : GW) (m : MK) (d : Nat) (lv : List (Nat × Value)) (α μ : Mem) (w : Value) (β : Mem) : Prop := Ev2 G m d 0 lv [] μ (fun v μ' => v = some w ∧ VX β μ' ∧ keepM μ μ')
/-! ===== the class's public methods over the abstract state: what is told ===== -/
theorem inB_01 {x : Int32} : (0 ≤ x ∧ x ≤ 1) ↔ (x = 0 ∨ x = 1) := by
  have e0 : (0 : Int32).toInt = 0 := by decide
  have e1 : (1 : Int32).toInt = 1 := by decide
  rw [i_le, i_le, i_eq, i_eq, e0, e1]
  omega
def sp_pathTold (α : Mem) (a b : Int32) : Int32 := if inB a 0 6 = true ∧ inB b 0 6 = true then α 1 (7 * a.toNatClampNeg + b.toNatClampNeg) else -5
theorem sg_X7_pathTold_0 {G : GW} {K : Option Value → Mem → Prop} {μ : Mem} {x1 x2 : Int32}  (h : (((inB x1 0 6) = false) → K (some (.int (-5))) μ) ∧ (((inB x1 0 6) = true) → (((inB x2 0 6) = false) → K (some (.int (-5))) μ) ∧ (((inB x2 0 6) = true) → (vp_in x1 7) ∧ (vp_in x2 7) ∧ K (some (.int (μ (12 + x1.toNatClampNeg) x2.toNatClampNeg))) μ))) : Ev2 G mX7_pathTold 3 0 [(0, .ref 10), (1, .int x1), (2, .int x2)] [] μ K := by
  refine ev_iload_n dX7_pathTold_0 1 rfl ?_
  refine e2_callS (w := .int (bi (inB x1 0 6))) (μ1 := μ) (as := [.int x1]) (st := []) ok_X7_isPlace sv_X7_isPlace ml_7_94 dX7_pathTold_1 rfl rfl (Nat.le_of_ble_eq_true rfl) (Nat.le_of_ble_eq_true rfl) (by decide) (ct_X7_isPlace (x1) μ) ?_
  refine ev_ifeq_bi (tgt := 25) dX7_pathTold_4 rfl (fun c1 => ?_) (fun c1 => ?_)
  · have h2 := h.1 c1
    refine ev_bipush (v := (-5)) dX7_pathTold_25 rfl ?_
    exact ev_ireturn dX7_pathTold_27 rfl True.intro rfl rfl ⟨rfl, h2⟩
  · have h3 := h.2 c1
    refine ev_iload_n dX7_pathTold_7 2 rfl ?_
    refine e2_callS (w := .int (bi (inB x2 0 6))) (μ1 := μ) (as := [.int x2]) (st := []) ok_X7_isPlace sv_X7_isPlace ml_7_94 dX7_pathTold_8 rfl rfl (Nat.le_of_ble_eq_true rfl) (Nat.le_of_ble_eq_true rfl) (by decide) (ct_X7_isPlace (x2) μ) ?_
    refine ev_ifeq_bi (tgt := 25) dX7_pathTold_11 rfl (fun c4 => ?_) (fun c4 => ?_)
    · have h5 := h3.1 c4
      refine ev_bipush (v := (-5)) dX7_pathTold_25 rfl ?_
      exact ev_ireturn dX7_pathTold_27 rfl True.intro rfl rfl ⟨rfl, h5⟩
    · have h6 := h3.2 c4
      refine ev_aload_n dX7_pathTold_14 0 rfl (by decide) ?_
      refine ev_getR' fl_7_11 rfl kd_10 rf_10_0 dX7_pathTold_15 ?_
      refine ev_iload_n dX7_pathTold_18 1 rfl ?_
      have p7 := h6.1
      have h8 := h6.2
      refine ev_aaload' (k := 4) kd_11 (by omega) ln_11 p7 (raW p7) dX7_pathTold_19 ?_
      refine ev_iload_n dX7_pathTold_20 2 rfl ?_
      have p9 := h8.1
      have h10 := h8.2
      refine ev_iaload' (v := (μ (12 + x1.toNatClampNeg) x2.toNatClampNeg)) (kdRw (isW p7)) (lnRw (isW p7)) p9 rfl dX7_pathTold_21 ?_
      refine ev_goto (tgt := 27) dX7_pathTold_22 rfl ?_
      exact ev_ireturn dX7_pathTold_27 rfl True.intro rfl rfl ⟨rfl, h10⟩
theorem pb_X7_pathTold {G : GW} {α μ : Mem} (hf : WF α) (h : VX α μ) (x1 x2 : Int32) : pubX G mX7_pathTold 3 [(0, .ref 10), (1, .int x1), (2, .int x2)] α μ (.int (sp_pathTold α x1 x2)) α := by
  have hk := keepM.rf μ
  have cN : μ 10 9 = α 0 0 := h.1.1.1
  have cR : μ 10 10 = α 0 1 := h.1.1.2.1
  have cX : μ 10 11 = α 0 2 := h.1.1.2.2.1
  have cL : μ 10 12 = α 0 3 := h.1.1.2.2.2.1
  have cT : μ 24 1 = α 0 4 := h.1.1.2.2.2.2
  have hw : inB x1 0 6 = true → inB x2 0 6 = true → μ (12 + x1.toNatClampNeg) x2.toNatClampNeg = α 1 (7 * x1.toNatClampNeg + x2.toNatClampNeg) := fun a b => h.1.2.1 _ _ (va_in_lt (vp7 a)) (va_in_lt (vp7 b))
  have v1 : inB x1 0 6 = true → vp_in x1 7 := vp7
  have v2 : inB x2 0 6 = true → vp_in x2 7 := vp7
  refine sg_X7_pathTold_0 ?_
  repeat' (first | assumption | intro _ | apply And.intro)
  all_goals simp_all [vp_in, sp_pathTold]
def sp_rideTold (α : Mem) (r what : Int32) : Int32 := if inB r 0 (α 0 1 - 1) = true then (if what = 0 then α 2 r.toNatClampNeg else if what = 1 then α 3 r.toNatClampNeg else -7) else -5
theorem sg_X7_rideTold_0 {G : GW} {K : Option Value → Mem → Prop} {μ : Mem} {x1 x2 : Int32}  (h : (((inB x1 0 (μ 10 10 - 1)) = true) → (((inB x2 (0 : Int32) (1 : Int32)) = true) → ((¬ x2 = 0) → (vp_in x1 4) ∧ K (some (.int (μ 21 x1.toNatClampNeg))) μ) ∧ ((x2 = 0) → (vp_in x1 4) ∧ K (some (.int (μ 20 x1.toNatClampNeg))) μ)) ∧ (((inB x2 (0 : Int32) (1 : Int32)) = false) → K (some (.int (-7))) μ)) ∧ (((inB x1 0 (μ 10 10 - 1)) = false) → K (some (.int (-5))) μ)) : Ev2 G mX7_rideTold 3 0 [(0, .ref 10), (1, .int x1), (2, .int x2)] [] μ K := by
  refine ev_aload_n dX7_rideTold_0 0 rfl (by decide) ?_
  refine ev_iload_n dX7_rideTold_1 1 rfl ?_
  refine e2_callV (w := .int (bi (inB x1 0 (μ 10 10 - 1)))) (μ1 := μ) (a := 10) (as := [.int x1]) (st := []) ok_X7_isRide vi_X7_isRide ml_7_98 hcl_7 kd_10 dX7_rideTold_2 rfl rfl (Nat.le_of_ble_eq_true rfl) (Nat.le_of_ble_eq_true rfl) (by decide) (ct_X7_isRide (x1) μ) ?_
  refine ev_ifne_bi (tgt := 11) dX7_rideTold_5 rfl (fun c1 => ?_) (fun c1 => ?_)
  · have h2 := h.1 c1
    refine ev_iload_n dX7_rideTold_11 2 rfl ?_
    refine ev_iconst (v := 0) dX7_rideTold_12 rfl ?_
    refine ev_iconst (v := 1) dX7_rideTold_13 rfl ?_
    refine e2_callS (w := .int (bi (inB x2 (0 : Int32) (1 : Int32)))) (μ1 := μ) (as := [.int x2, .int 0, .int 1]) (st := []) ok_X7_isWithin sv_X7_isWithin ml_7_86 dX7_rideTold_14 rfl rfl (Nat.le_of_ble_eq_true rfl) (Nat.le_of_ble_eq_true rfl) (by decide) (ct_X7_isWithin (x2) (0) (1) μ) ?_
    refine ev_ifne_bi (tgt := 23) dX7_rideTold_17 rfl (fun c4 => ?_) (fun c4 => ?_)
    · have h5 := h2.1 c4
      refine ev_iload_n dX7_rideTold_23 2 rfl ?_
      refine ev_if_ne (tgt := 36) dX7_rideTold_24 rfl (fun c7 => ?_) (fun c7 => ?_)
      · have h8 := h5.1 c7
        refine ev_aload_n dX7_rideTold_36 0 rfl (by decide) ?_
        refine ev_getR' fl_7_24 rfl kd_10 rf_10_3 dX7_rideTold_37 ?_
        refine ev_iload_n dX7_rideTold_40 1 rfl ?_
        have p10 := h8.1
        have h11 := h8.2
        refine ev_iaload' (v := (μ 21 x1.toNatClampNeg)) kd_21 ln_21 p10 rfl dX7_rideTold_41 ?_
        exact ev_ireturn dX7_rideTold_42 rfl True.intro rfl rfl ⟨rfl, h11⟩
      · have h9 := h5.2 c7
        refine ev_aload_n dX7_rideTold_27 0 rfl (by decide) ?_
        refine ev_getR' fl_7_20 rfl kd_10 rf_10_2 dX7_rideTold_28 ?_
        refine ev_iload_n dX7_rideTold_31 1 rfl ?_
        have p12 := h9.1
        have h13 := h9.2
        refine ev_iaload' (v := (μ 20 x1.toNatClampNeg)) kd_20 ln_20 p12 rfl dX7_rideTold_32 ?_
        refine ev_goto (tgt := 42) dX7_rideTold_33 rfl ?_
        exact ev_ireturn dX7_rideTold_42 rfl True.intro rfl rfl ⟨rfl, h13⟩
    · have h6 := h2.2 c4
      refine ev_bipush (v := (-7)) dX7_rideTold_20 rfl ?_
      exact ev_ireturn dX7_rideTold_22 rfl True.intro rfl rfl ⟨rfl, h6⟩
  · have h3 := h.2 c1
    refine ev_bipush (v := (-5)) dX7_rideTold_8 rfl ?_
    exact ev_ireturn dX7_rideTold_10 rfl True.intro rfl rfl ⟨rfl, h3⟩
theorem pb_X7_rideTold {G : GW} {α μ : Mem} (hf : WF α) (h : VX α μ) (x1 x2 : Int32) : pubX G mX7_rideTold 3 [(0, .ref 10), (1, .int x1), (2, .int x2)] α μ (.int (sp_rideTold α x1 x2)) α := by
  have hk := keepM.rf μ
  have cN : μ 10 9 = α 0 0 := h.1.1.1
  have cR : μ 10 10 = α 0 1 := h.1.1.2.1
  have cX : μ 10 11 = α 0 2 := h.1.1.2.2.1
  have cL : μ 10 12 = α 0 3 := h.1.1.2.2.2.1
  have cT : μ 24 1 = α 0 4 := h.1.1.2.2.2.2
  have hr : inB x1 0 (α 0 1 - 1) = true → μ 20 x1.toNatClampNeg = α 2 x1.toNatClampNeg ∧ μ 21 x1.toNatClampNeg = α 3 x1.toNatClampNeg := fun a => h.1.2.2.1 _ (VX.vR hf h.1 a).2.1
  have v1 : inB x1 0 (α 0 1 - 1) = true → vp_in x1 4 := fun a => (VX.vR hf h.1 a).1
  have e : inB x2 0 1 = (decide (x2 = 0) || decide (x2 = 1)) := by
    unfold inB
    rw [Bool.eq_iff_iff]
    simp only [Bool.and_eq_true, Bool.or_eq_true, decide_eq_true_eq]
    exact inB_01
  refine sg_X7_rideTold_0 ?_
  rw [e]
  repeat' (first | assumption | intro _ | apply And.intro)
  all_goals simp_all [vp_in, sp_rideTold]
def sp_count (α : Mem) (what : Int32) : Int32 := if what = 0 then α 0 0 else if what = 1 then α 0 1 else if what = 2 then α 0 2 else if what = 3 then α 0 3 else if what = 4 then α 0 4 else -2
theorem sg_X7_count_0 {G : GW} {K : Option Value → Mem → Prop} {μ : Mem} {x1 : Int32}  (h : (x1 = 0 → K (some (.int (μ 10 9))) μ) ∧ (x1 = 1 → K (some (.int (μ 10 10))) μ) ∧ (x1 = 2 → K (some (.int (μ 10 11))) μ) ∧ (x1 = 3 → K (some (.int (μ 10 12))) μ) ∧ (x1 = 4 → K (some (.int (μ 24 1))) μ) ∧ (¬ x1 = 0 → ¬ x1 = 1 → ¬ x1 = 2 → ¬ x1 = 3 → ¬ x1 = 4 → K (some (.int (-2))) μ)) : Ev2 G mX7_count 1 0 [(0, .ref 10), (1, .int x1)] [] μ K := by
  refine ev_iload_n dX7_count_0 1 rfl ?_
  rcases Decidable.em (x1 = 0) with c1 | c1
  · have h2 := h.1 c1
    refine ev_tabIn (off := 35) (tgt := 36) 0 dX7_count_1 c1 (by decide) ?_
    refine ev_aload_n dX7_count_36 0 rfl (by decide) ?_
    refine ev_getI' (v := (μ 10 9)) fl_7_60 rfl kd_10 rfl dX7_count_37 ?_
    exact ev_ireturn dX7_count_40 rfl True.intro rfl rfl ⟨rfl, h2⟩
  · have h3 := h.2
    rcases Decidable.em (x1 = 1) with c4 | c4
    · have h5 := h3.1 c4
      refine ev_tabIn (off := 40) (tgt := 41) 1 dX7_count_1 c4 (by decide) ?_
      refine ev_aload_n dX7_count_41 0 rfl (by decide) ?_
      refine ev_getI' (v := (μ 10 10)) fl_7_64 rfl kd_10 rfl dX7_count_42 ?_
      exact ev_ireturn dX7_count_45 rfl True.intro rfl rfl ⟨rfl, h5⟩
    · have h6 := h3.2
      rcases Decidable.em (x1 = 2) with c7 | c7
      · have h8 := h6.1 c7
        refine ev_tabIn (off := 45) (tgt := 46) 2 dX7_count_1 c7 (by decide) ?_
        refine ev_aload_n dX7_count_46 0 rfl (by decide) ?_
        refine ev_getI' (v := (μ 10 11)) fl_7_67 rfl kd_10 rfl dX7_count_47 ?_
        exact ev_ireturn dX7_count_50 rfl True.intro rfl rfl ⟨rfl, h8⟩
      · have h9 := h6.2
        rcases Decidable.em (x1 = 3) with c10 | c10
        · have h11 := h9.1 c10
          refine ev_tabIn (off := 50) (tgt := 51) 3 dX7_count_1 c10 (by decide) ?_
          refine ev_aload_n dX7_count_51 0 rfl (by decide) ?_
          refine ev_getI' (v := (μ 10 12)) fl_7_70 rfl kd_10 rfl dX7_count_52 ?_
          exact ev_ireturn dX7_count_55 rfl True.intro rfl rfl ⟨rfl, h11⟩
        · have h12 := h9.2
          rcases Decidable.em (x1 = 4) with c13 | c13
          · have h14 := h12.1 c13
            refine ev_tabIn (off := 55) (tgt := 56) 4 dX7_count_1 c13 (by decide) ?_
            refine ev_aload_n dX7_count_56 0 rfl (by decide) ?_
            refine ev_getR' fl_7_36 rfl kd_10 rf_10_5 dX7_count_57 ?_
            refine ev_getR' fl_7_101 rfl kd_23 rf_23_0 dX7_count_60 ?_
            refine ev_getI' (v := (μ 24 1)) fl_7_105 rfl kd_24 rfl dX7_count_63 ?_
            exact ev_ireturn dX7_count_66 rfl True.intro rfl rfl ⟨rfl, h14⟩
          · have h15 := h12.2
            have tc1 := tz_ne (z := 0) c1 (by decide)
            have tc4 := tz_ne (z := 1) c4 (by decide)
            have tc7 := tz_ne (z := 2) c7 (by decide)
            have tc10 := tz_ne (z := 3) c10 (by decide)
            have tc13 := tz_ne (z := 4) c13 (by decide)
            have h16 := h15 c1 c4 c7 c10 c13
            refine ev_tabOut (tgt := 67) dX7_count_1 (by omega) rfl ?_
            refine ev_bipush (v := (-2)) dX7_count_67 rfl ?_
            exact ev_ireturn dX7_count_69 rfl True.intro rfl rfl ⟨rfl, h16⟩
theorem pb_X7_count {G : GW} {α μ : Mem} (hf : WF α) (h : VX α μ) (x1 : Int32) : pubX G mX7_count 1 [(0, .ref 10), (1, .int x1)] α μ (.int (sp_count α x1)) α := by
  have hk := keepM.rf μ
  have cN : μ 10 9 = α 0 0 := h.1.1.1
  have cR : μ 10 10 = α 0 1 := h.1.1.2.1
  have cX : μ 10 11 = α 0 2 := h.1.1.2.2.1
  have cL : μ 10 12 = α 0 3 := h.1.1.2.2.2.1
  have cT : μ 24 1 = α 0 4 := h.1.1.2.2.2.2
  refine sg_X7_count_0 ?_
  repeat' (first | assumption | intro _ | apply And.intro)
  all_goals simp_all [vp_in, sp_count]
def sp_asks (α : Mem) (part x : Int32) : Int32 := if inB x 0 (α 0 0 - 1) = true then (if part = 0 then saidA α 0 x.toNatClampNeg else if part = 1 then saidA α 1 x.toNatClampNeg else if part = 2 then saidA α 2 x.toNatClampNeg else -7) else -5
theorem sg_X7_asks_0 {G : GW} {K : Option Value → Mem → Prop} {μ : Mem} {x1 x2 : Int32}  (h : (((inB x2 0 (μ 10 9 - 1)) = true) → (x1 = 0 → (vp_in x2 7) ∧ K (some (.int (μ (43 + x2.toNatClampNeg) 6))) μ) ∧ (x1 = 1 → (vp_in x2 7) ∧ K (some (.int (μ (43 + x2.toNatClampNeg) 7))) μ) ∧ (x1 = 2 → (vp_in x2 7) ∧ K (some (.int (μ (43 + x2.toNatClampNeg) 8))) μ) ∧ (¬ x1 = 0 → ¬ x1 = 1 → ¬ x1 = 2 → K (some (.int (-7))) μ)) ∧ (((inB x2 0 (μ 10 9 - 1)) = false) → K (some (.int (-5))) μ)) : Ev2 G mX7_asks 3 0 [(0, .ref 10), (1, .int x1), (2, .int x2)] [] μ K := by
  refine ev_aload_n dX7_asks_0 0 rfl (by decide) ?_
  refine ev_iload_n dX7_asks_1 2 rfl ?_
  refine e2_callV (w := .int (bi (inB x2 0 (μ 10 9 - 1)))) (μ1 := μ) (a := 10) (as := [.int x2]) (st := []) ok_X7_isHorse vi_X7_isHorse ml_7_128 hcl_7 kd_10 dX7_asks_2 rfl rfl (Nat.le_of_ble_eq_true rfl) (Nat.le_of_ble_eq_true rfl) (by decide) (ct_X7_isHorse (x2) μ) ?_
  refine ev_ifne_bi (tgt := 11) dX7_asks_5 rfl (fun c1 => ?_) (fun c1 => ?_)
  · have h2 := h.1 c1
    refine ev_iload_n dX7_asks_11 1 rfl ?_
    rcases Decidable.em (x1 = 0) with c4 | c4
    · have h5 := h2.1 c4
      refine ev_tabIn (off := 28) (tgt := 40) 0 dX7_asks_12 c4 (by decide) ?_
      refine ev_aload_n dX7_asks_40 0 rfl (by decide) ?_
      refine ev_getR' fl_7_16 rfl kd_10 rf_10_1 dX7_asks_41 ?_
      refine ev_iload_n dX7_asks_44 2 rfl ?_
      have p7 := h5.1
      have h8 := h5.2
      refine ev_aaload' (k := 5) kd_19 (by omega) ln_19 p7 (raH p7) dX7_asks_45 ?_
      refine ev_getI' (v := (μ (43 + x2.toNatClampNeg) 6)) fl_7_131 rfl (kdHo (isH p7)) rfl dX7_asks_46 ?_
      exact ev_ireturn dX7_asks_49 rfl True.intro rfl rfl ⟨rfl, h8⟩
    · have h6 := h2.2
      rcases Decidable.em (x1 = 1) with c9 | c9
      · have h10 := h6.1 c9
        refine ev_tabIn (off := 38) (tgt := 50) 1 dX7_asks_12 c9 (by decide) ?_
        refine ev_aload_n dX7_asks_50 0 rfl (by decide) ?_
        refine ev_getR' fl_7_16 rfl kd_10 rf_10_1 dX7_asks_51 ?_
        refine ev_iload_n dX7_asks_54 2 rfl ?_
        have p12 := h10.1
        have h13 := h10.2
        refine ev_aaload' (k := 5) kd_19 (by omega) ln_19 p12 (raH p12) dX7_asks_55 ?_
        refine ev_getI' (v := (μ (43 + x2.toNatClampNeg) 7)) fl_7_134 rfl (kdHo (isH p12)) rfl dX7_asks_56 ?_
        exact ev_ireturn dX7_asks_59 rfl True.intro rfl rfl ⟨rfl, h13⟩
      · have h11 := h6.2
        rcases Decidable.em (x1 = 2) with c14 | c14
        · have h15 := h11.1 c14
          refine ev_tabIn (off := 48) (tgt := 60) 2 dX7_asks_12 c14 (by decide) ?_
          refine ev_aload_n dX7_asks_60 0 rfl (by decide) ?_
          refine ev_getR' fl_7_16 rfl kd_10 rf_10_1 dX7_asks_61 ?_
          refine ev_iload_n dX7_asks_64 2 rfl ?_
          have p17 := h15.1
          have h18 := h15.2
          refine ev_aaload' (k := 5) kd_19 (by omega) ln_19 p17 (raH p17) dX7_asks_65 ?_
          refine ev_getI' (v := (μ (43 + x2.toNatClampNeg) 8)) fl_7_137 rfl (kdHo (isH p17)) rfl dX7_asks_66 ?_
          exact ev_ireturn dX7_asks_69 rfl True.intro rfl rfl ⟨rfl, h18⟩
        · have h16 := h11.2
          have tc4 := tz_ne (z := 0) c4 (by decide)
          have tc9 := tz_ne (z := 1) c9 (by decide)
          have tc14 := tz_ne (z := 2) c14 (by decide)
          have h19 := h16 c4 c9 c14
          refine ev_tabOut (tgt := 70) dX7_asks_12 (by omega) rfl ?_
          refine ev_bipush (v := (-7)) dX7_asks_70 rfl ?_
          exact ev_ireturn dX7_asks_72 rfl True.intro rfl rfl ⟨rfl, h19⟩
  · have h3 := h.2 c1
    refine ev_bipush (v := (-5)) dX7_asks_8 rfl ?_
    exact ev_ireturn dX7_asks_10 rfl True.intro rfl rfl ⟨rfl, h3⟩
theorem pb_X7_asks {G : GW} {α μ : Mem} (hf : WF α) (h : VX α μ) (x1 x2 : Int32) : pubX G mX7_asks 3 [(0, .ref 10), (1, .int x1), (2, .int x2)] α μ (.int (sp_asks α x1 x2)) α := by
  have hk := keepM.rf μ
  have cN : μ 10 9 = α 0 0 := h.1.1.1
  have cR : μ 10 10 = α 0 1 := h.1.1.2.1
  have cX : μ 10 11 = α 0 2 := h.1.1.2.2.1
  have cL : μ 10 12 = α 0 3 := h.1.1.2.2.2.1
  have cT : μ 24 1 = α 0 4 := h.1.1.2.2.2.2
  have v2 : inB x2 0 (α 0 0 - 1) = true → vp_in x2 7 := fun a => (VX.vH hf h.1 a).1
  have s0 : inB x2 0 (α 0 0 - 1) = true → μ (43 + x2.toNatClampNeg) 6 = saidA α 0 x2.toNatClampNeg := fun a => h.2 _ (VX.vH hf h.1 a).2.1 0 (by omega)
  have s1 : inB x2 0 (α 0 0 - 1) = true → μ (43 + x2.toNatClampNeg) 7 = saidA α 1 x2.toNatClampNeg := fun a => h.2 _ (VX.vH hf h.1 a).2.1 1 (by omega)
  have s2 : inB x2 0 (α 0 0 - 1) = true → μ (43 + x2.toNatClampNeg) 8 = saidA α 2 x2.toNatClampNeg := fun a => h.2 _ (VX.vH hf h.1 a).2.1 2 (by omega)
  refine sg_X7_asks_0 ?_
  repeat' (first | assumption | intro _ | apply And.intro)
  all_goals simp_all [vp_in, sp_asks]
def sp_told (α : Mem) (x what : Int32) : Int32 := if inB x 0 (α 0 0 - 1) = true then (if what = 0 then α 4 x.toNatClampNeg else if what = 1 then α 5 x.toNatClampNeg else if what = 2 then α 6 x.toNatClampNeg else if what = 3 then α 7 x.toNatClampNeg else if what = 4 then α 8 x.toNatClampNeg else if what = 5 then α 9 x.toNatClampNeg else if what = 6 then outA α x.toNatClampNeg else if what = 7 then homeA α x.toNatClampNeg else -7) else -5
theorem sg_X7_told_0 {G : GW} {K : Option Value → Mem → Prop} {μ : Mem} {x1 x2 : Int32}  (h : (((inB x1 0 (μ 10 9 - 1)) = true) → (vp_in x1 7) ∧ (x2 = 0 → K (some (.int (μ (43 + x1.toNatClampNeg) 0))) μ) ∧ (x2 = 1 → K (some (.int (μ (43 + x1.toNatClampNeg) 1))) μ) ∧ (x2 = 2 → K (some (.int (μ (43 + x1.toNatClampNeg) 2))) μ) ∧ (x2 = 3 → K (some (.int (μ (43 + x1.toNatClampNeg) 3))) μ) ∧ (x2 = 4 → K (some (.int (μ (43 + x1.toNatClampNeg) 4))) μ) ∧ (x2 = 5 → K (some (.int (μ (43 + x1.toNatClampNeg) 5))) μ) ∧ (x2 = 6 → K (some (.int (outF (μ (43 + x1.toNatClampNeg) 0) (μ (43 + x1.toNatClampNeg) 4) (μ (43 + x1.toNatClampNeg) 6)))) μ) ∧ (x2 = 7 → K (some (.int (homeF (μ (43 + x1.toNatClampNeg) 0) (μ (43 + x1.toNatClampNeg) 4) (μ (43 + x1.toNatClampNeg) 7)))) μ) ∧ (¬ x2 = 0 → ¬ x2 = 1 → ¬ x2 = 2 → ¬ x2 = 3 → ¬ x2 = 4 → ¬ x2 = 5 → ¬ x2 = 6 → ¬ x2 = 7 → K (some (.int (-7))) μ)) ∧ (((inB x1 0 (μ 10 9 - 1)) = false) → K (some (.int (-5))) μ)) : Ev2 G mX7_told 3 0 [(0, .ref 10), (1, .int x1), (2, .int x2)] [] μ K := by
  refine ev_aload_n dX7_told_0 0 rfl (by decide) ?_
  refine ev_iload_n dX7_told_1 1 rfl ?_
  refine e2_callV (w := .int (bi (inB x1 0 (μ 10 9 - 1)))) (μ1 := μ) (a := 10) (as := [.int x1]) (st := []) ok_X7_isHorse vi_X7_isHorse ml_7_128 hcl_7 kd_10 dX7_told_2 rfl rfl (Nat.le_of_ble_eq_true rfl) (Nat.le_of_ble_eq_true rfl) (by decide) (ct_X7_isHorse (x1) μ) ?_
  refine ev_ifne_bi (tgt := 11) dX7_told_5 rfl (fun c1 => ?_) (fun c1 => ?_)
  · have h2 := h.1 c1
    refine ev_aload_n dX7_told_11 0 rfl (by decide) ?_
    refine ev_getR' fl_7_16 rfl kd_10 rf_10_1 dX7_told_12 ?_
    refine ev_iload_n dX7_told_15 1 rfl ?_
    have p4 := h2.1
    have h5 := h2.2
    refine ev_aaload' (k := 5) kd_19 (by omega) ln_19 p4 (raH p4) dX7_told_16 ?_
    refine ev_astore_n (lv' := [(0, .ref 10), (1, .int x1), (2, .int x2), (3, .ref (43 + x1.toNatClampNeg))]) dX7_told_17 (nzHo (isH p4)) (by decide) [1, 2, 3, 0] rfl ?_
    refine ev_iload_n dX7_told_18 2 rfl ?_
    rcases Decidable.em (x2 = 0) with c6 | c6
    · have h7 := h5.1 c6
      refine ev_tabIn (off := 45) (tgt := 64) 0 dX7_told_19 c6 (by decide) ?_
      refine ev_aload_n dX7_told_64 3 rfl (nzHo (isH p4)) ?_
      refine ev_getI' (v := (μ (43 + x1.toNatClampNeg) 0)) fl_7_151 rfl (kdHo (isH p4)) rfl dX7_told_65 ?_
      exact ev_ireturn dX7_told_68 rfl True.intro rfl rfl ⟨rfl, h7⟩
    · have h8 := h5.2
      rcases Decidable.em (x2 = 1) with c9 | c9
      · have h10 := h8.1 c9
        refine ev_tabIn (off := 50) (tgt := 69) 1 dX7_told_19 c9 (by decide) ?_
        refine ev_aload_n dX7_told_69 3 rfl (nzHo (isH p4)) ?_
        refine ev_getI' (v := (μ (43 + x1.toNatClampNeg) 1)) fl_7_154 rfl (kdHo (isH p4)) rfl dX7_told_70 ?_
        exact ev_ireturn dX7_told_73 rfl True.intro rfl rfl ⟨rfl, h10⟩
      · have h11 := h8.2
        rcases Decidable.em (x2 = 2) with c12 | c12
        · have h13 := h11.1 c12
          refine ev_tabIn (off := 55) (tgt := 74) 2 dX7_told_19 c12 (by decide) ?_
          refine ev_aload_n dX7_told_74 3 rfl (nzHo (isH p4)) ?_
          refine ev_getI' (v := (μ (43 + x1.toNatClampNeg) 2)) fl_7_157 rfl (kdHo (isH p4)) rfl dX7_told_75 ?_
          exact ev_ireturn dX7_told_78 rfl True.intro rfl rfl ⟨rfl, h13⟩
        · have h14 := h11.2
          rcases Decidable.em (x2 = 3) with c15 | c15
          · have h16 := h14.1 c15
            refine ev_tabIn (off := 60) (tgt := 79) 3 dX7_told_19 c15 (by decide) ?_
            refine ev_aload_n dX7_told_79 3 rfl (nzHo (isH p4)) ?_
            refine ev_getI' (v := (μ (43 + x1.toNatClampNeg) 3)) fl_7_160 rfl (kdHo (isH p4)) rfl dX7_told_80 ?_
            exact ev_ireturn dX7_told_83 rfl True.intro rfl rfl ⟨rfl, h16⟩
          · have h17 := h14.2
            rcases Decidable.em (x2 = 4) with c18 | c18
            · have h19 := h17.1 c18
              refine ev_tabIn (off := 65) (tgt := 84) 4 dX7_told_19 c18 (by decide) ?_
              refine ev_aload_n dX7_told_84 3 rfl (nzHo (isH p4)) ?_
              refine ev_getI' (v := (μ (43 + x1.toNatClampNeg) 4)) fl_7_163 rfl (kdHo (isH p4)) rfl dX7_told_85 ?_
              exact ev_ireturn dX7_told_88 rfl True.intro rfl rfl ⟨rfl, h19⟩
            · have h20 := h17.2
              rcases Decidable.em (x2 = 5) with c21 | c21
              · have h22 := h20.1 c21
                refine ev_tabIn (off := 70) (tgt := 89) 5 dX7_told_19 c21 (by decide) ?_
                refine ev_aload_n dX7_told_89 3 rfl (nzHo (isH p4)) ?_
                refine ev_getI' (v := (μ (43 + x1.toNatClampNeg) 5)) fl_7_148 rfl (kdHo (isH p4)) rfl dX7_told_90 ?_
                exact ev_ireturn dX7_told_93 rfl True.intro rfl rfl ⟨rfl, h22⟩
              · have h23 := h20.2
                rcases Decidable.em (x2 = 6) with c24 | c24
                · have h25 := h23.1 c24
                  refine ev_tabIn (off := 75) (tgt := 94) 6 dX7_told_19 c24 (by decide) ?_
                  refine ev_aload_n dX7_told_94 3 rfl (nzHo (isH p4)) ?_
                  refine e2_callV (w := .int (outF (μ (43 + x1.toNatClampNeg) 0) (μ (43 + x1.toNatClampNeg) 4) (μ (43 + x1.toNatClampNeg) 6))) (μ1 := μ) (a := (43 + x1.toNatClampNeg)) (as := []) (st := []) ok_X0_out vi_X0_out ml_7_166 hcl_0 (kdHo (isH p4)) dX7_told_95 rfl rfl (Nat.le_of_ble_eq_true rfl) (Nat.le_of_ble_eq_true rfl) (by decide) (ct_X0_out (43 + x1.toNatClampNeg) (isH p4) μ) ?_
                  exact ev_ireturn dX7_told_98 rfl True.intro rfl rfl ⟨rfl, h25⟩
                · have h26 := h23.2
                  rcases Decidable.em (x2 = 7) with c27 | c27
                  · have h28 := h26.1 c27
                    refine ev_tabIn (off := 80) (tgt := 99) 7 dX7_told_19 c27 (by decide) ?_
                    refine ev_aload_n dX7_told_99 3 rfl (nzHo (isH p4)) ?_
                    refine e2_callV (w := .int (homeF (μ (43 + x1.toNatClampNeg) 0) (μ (43 + x1.toNatClampNeg) 4) (μ (43 + x1.toNatClampNeg) 7))) (μ1 := μ) (a := (43 + x1.toNatClampNeg)) (as := []) (st := []) ok_X0_home vi_X0_home ml_7_170 hcl_0 (kdHo (isH p4)) dX7_told_100 rfl rfl (Nat.le_of_ble_eq_true rfl) (Nat.le_of_ble_eq_true rfl) (by decide) (ct_X0_home (43 + x1.toNatClampNeg) (isH p4) μ) ?_
                    exact ev_ireturn dX7_told_103 rfl True.intro rfl rfl ⟨rfl, h28⟩
                  · have h29 := h26.2
                    have tc6 := tz_ne (z := 0) c6 (by decide)
                    have tc9 := tz_ne (z := 1) c9 (by decide)
                    have tc12 := tz_ne (z := 2) c12 (by decide)
                    have tc15 := tz_ne (z := 3) c15 (by decide)
                    have tc18 := tz_ne (z := 4) c18 (by decide)
                    have tc21 := tz_ne (z := 5) c21 (by decide)
                    have tc24 := tz_ne (z := 6) c24 (by decide)
                    have tc27 := tz_ne (z := 7) c27 (by decide)
                    have h30 := h29 c6 c9 c12 c15 c18 c21 c24 c27
                    refine ev_tabOut (tgt := 104) dX7_told_19 (by omega) rfl ?_
                    refine ev_bipush (v := (-7)) dX7_told_104 rfl ?_
                    exact ev_ireturn dX7_told_106 rfl True.intro rfl rfl ⟨rfl, h30⟩
  · have h3 := h.2 c1
    refine ev_bipush (v := (-5)) dX7_told_8 rfl ?_
    exact ev_ireturn dX7_told_10 rfl True.intro rfl rfl ⟨rfl, h3⟩
theorem pb_X7_told {G : GW} {α μ : Mem} (hf : WF α) (h : VX α μ) (x1 x2 : Int32) : pubX G mX7_told 3 [(0, .ref 10), (1, .int x1), (2, .int x2)] α μ (.int (sp_told α x1 x2)) α := by
  have hk := keepM.rf μ
  have cN : μ 10 9 = α 0 0 := h.1.1.1
  have cR : μ 10 10 = α 0 1 := h.1.1.2.1
  have cX : μ 10 11 = α 0 2 := h.1.1.2.2.1
  have cL : μ 10 12 = α 0 3 := h.1.1.2.2.2.1
  have cT : μ 24 1 = α 0 4 := h.1.1.2.2.2.2
  refine sg_X7_told_0 ⟨fun a => ?_, fun a => ?_⟩
  · rw [cN] at a
    have q : x1.toNatClampNeg < aN α := (VX.vH hf h.1 a).2.1
    have f0 : μ (43 + x1.toNatClampNeg) 0 = α 4 (x1.toNatClampNeg) := h.1.2.2.2.1 _ q 0 (by omega)
    have f1 : μ (43 + x1.toNatClampNeg) 1 = α 5 (x1.toNatClampNeg) := h.1.2.2.2.1 _ q 1 (by omega)
    have f2 : μ (43 + x1.toNatClampNeg) 2 = α 6 (x1.toNatClampNeg) := h.1.2.2.2.1 _ q 2 (by omega)
    have f3 : μ (43 + x1.toNatClampNeg) 3 = α 7 (x1.toNatClampNeg) := h.1.2.2.2.1 _ q 3 (by omega)
    have f4 : μ (43 + x1.toNatClampNeg) 4 = α 8 (x1.toNatClampNeg) := h.1.2.2.2.1 _ q 4 (by omega)
    have f5 : μ (43 + x1.toNatClampNeg) 5 = α 9 (x1.toNatClampNeg) := h.1.2.2.2.1 _ q 5 (by omega)
    have f6 : μ (43 + x1.toNatClampNeg) 6 = saidA α 0 (x1.toNatClampNeg) := h.2 _ q 0 (by omega)
    have f7 : μ (43 + x1.toNatClampNeg) 7 = saidA α 1 (x1.toNatClampNeg) := h.2 _ q 1 (by omega)
    have f8 : μ (43 + x1.toNatClampNeg) 8 = saidA α 2 (x1.toNatClampNeg) := h.2 _ q 2 (by omega)
    have v := (VX.vH hf h.1 a).1
    refine ⟨v, ?_⟩
    rw [f0, f1, f2, f3, f4, f5, f6, f7]
    have e6 : outF (α 4 x1.toNatClampNeg) (α 8 x1.toNatClampNeg) (saidA α 0 x1.toNatClampNeg) = outA α x1.toNatClampNeg := rfl
    have e7 : homeF (α 4 x1.toNatClampNeg) (α 8 x1.toNatClampNeg) (saidA α 1 x1.toNatClampNeg) = homeA α x1.toNatClampNeg := rfl
    rw [e6, e7]
    clear f0 f1 f2 f3 f4 f5 f6 f7 f8 e6 e7
    repeat' (first | assumption | intro _ | apply And.intro)
    all_goals simp_all [vp_in, sp_told]
  · rw [cN] at a
    repeat' (first | assumption | intro _ | apply And.intro)
    all_goals simp_all [vp_in, sp_told]
def sp_goes (α : Mem) (x p : Int32) : Int32 := if inB x 0 (α 0 0 - 1) = true ∧ inB p 0 6 = true then goA α x.toNatClampNeg p.toNatClampNeg else -5
theorem sg_X7_goes_0 {G : GW} {K : Option Value → Mem → Prop} {μ : Mem} {x1 x2 : Int32}  (h : (((inB x1 0 (μ 10 9 - 1)) = false) → K (some (.int (-5))) μ) ∧ (((inB x1 0 (μ 10 9 - 1)) = true) → (((inB x2 0 6) = false) → K (some (.int (-5))) μ) ∧ (((inB x2 0 6) = true) → (vp_in x1 7) ∧ K (some (.int (goesF (μ (43 + x1.toNatClampNeg) 0) (μ (43 + x1.toNatClampNeg) 1) (μ (43 + x1.toNatClampNeg) 2) (μ (43 + x1.toNatClampNeg) 4) x2))) μ))) : Ev2 G mX7_goes 3 0 [(0, .ref 10), (1, .int x1), (2, .int x2)] [] μ K := by
  refine ev_aload_n dX7_goes_0 0 rfl (by decide) ?_
  refine ev_iload_n dX7_goes_1 1 rfl ?_
  refine e2_callV (w := .int (bi (inB x1 0 (μ 10 9 - 1)))) (μ1 := μ) (a := 10) (as := [.int x1]) (st := []) ok_X7_isHorse vi_X7_isHorse ml_7_128 hcl_7 kd_10 dX7_goes_2 rfl rfl (Nat.le_of_ble_eq_true rfl) (Nat.le_of_ble_eq_true rfl) (by decide) (ct_X7_isHorse (x1) μ) ?_
  refine ev_ifeq_bi (tgt := 28) dX7_goes_5 rfl (fun c1 => ?_) (fun c1 => ?_)
  · have h2 := h.1 c1
    refine ev_bipush (v := (-5)) dX7_goes_28 rfl ?_
    exact ev_ireturn dX7_goes_30 rfl True.intro rfl rfl ⟨rfl, h2⟩
  · have h3 := h.2 c1
    refine ev_iload_n dX7_goes_8 2 rfl ?_
    refine e2_callS (w := .int (bi (inB x2 0 6))) (μ1 := μ) (as := [.int x2]) (st := []) ok_X7_isPlace sv_X7_isPlace ml_7_94 dX7_goes_9 rfl rfl (Nat.le_of_ble_eq_true rfl) (Nat.le_of_ble_eq_true rfl) (by decide) (ct_X7_isPlace (x2) μ) ?_
    refine ev_ifeq_bi (tgt := 28) dX7_goes_12 rfl (fun c4 => ?_) (fun c4 => ?_)
    · have h5 := h3.1 c4
      refine ev_bipush (v := (-5)) dX7_goes_28 rfl ?_
      exact ev_ireturn dX7_goes_30 rfl True.intro rfl rfl ⟨rfl, h5⟩
    · have h6 := h3.2 c4
      refine ev_aload_n dX7_goes_15 0 rfl (by decide) ?_
      refine ev_getR' fl_7_16 rfl kd_10 rf_10_1 dX7_goes_16 ?_
      refine ev_iload_n dX7_goes_19 1 rfl ?_
      have p7 := h6.1
      have h8 := h6.2
      refine ev_aaload' (k := 5) kd_19 (by omega) ln_19 p7 (raH p7) dX7_goes_20 ?_
      refine ev_iload_n dX7_goes_21 2 rfl ?_
      refine e2_callV (w := .int (goesF (μ (43 + x1.toNatClampNeg) 0) (μ (43 + x1.toNatClampNeg) 1) (μ (43 + x1.toNatClampNeg) 2) (μ (43 + x1.toNatClampNeg) 4) x2)) (μ1 := μ) (a := (43 + x1.toNatClampNeg)) (as := [.int x2]) (st := []) ok_X0_goesFrom vi_X0_goesFrom ml_7_173 hcl_0 (kdHo (isH p7)) dX7_goes_22 rfl rfl (Nat.le_of_ble_eq_true rfl) (Nat.le_of_ble_eq_true rfl) (by decide) (ct_X0_goesFrom (43 + x1.toNatClampNeg) (isH p7) (x2) μ) ?_
      refine ev_goto (tgt := 30) dX7_goes_25 rfl ?_
      exact ev_ireturn dX7_goes_30 rfl True.intro rfl rfl ⟨rfl, h8⟩
theorem pb_X7_goes {G : GW} {α μ : Mem} (hf : WF α) (h : VX α μ) (x1 x2 : Int32) : pubX G mX7_goes 3 [(0, .ref 10), (1, .int x1), (2, .int x2)] α μ (.int (sp_goes α x1 x2)) α := by
  have hk := keepM.rf μ
  have cN : μ 10 9 = α 0 0 := h.1.1.1
  have cR : μ 10 10 = α 0 1 := h.1.1.2.1
  have cX : μ 10 11 = α 0 2 := h.1.1.2.2.1
  have cL : μ 10 12 = α 0 3 := h.1.1.2.2.2.1
  have cT : μ 24 1 = α 0 4 := h.1.1.2.2.2.2
  have hg : inB x1 0 (α 0 0 - 1) = true → inB x2 0 6 = true → goesF (μ (43 + x1.toNatClampNeg) 0) (μ (43 + x1.toNatClampNeg) 1) (μ (43 + x1.toNatClampNeg) 2) (μ (43 + x1.toNatClampNeg) 4) x2 = goA α x1.toNatClampNeg x2.toNatClampNeg := fun a b => by
    have q : x1.toNatClampNeg < aN α := (VX.vH hf h.1 a).2.1
    have f0 : μ (43 + x1.toNatClampNeg) 0 = α 4 (x1.toNatClampNeg) := h.1.2.2.2.1 _ q 0 (by omega)
    have f1 : μ (43 + x1.toNatClampNeg) 1 = α 5 (x1.toNatClampNeg) := h.1.2.2.2.1 _ q 1 (by omega)
    have f2 : μ (43 + x1.toNatClampNeg) 2 = α 6 (x1.toNatClampNeg) := h.1.2.2.2.1 _ q 2 (by omega)
    have f3 : μ (43 + x1.toNatClampNeg) 3 = α 7 (x1.toNatClampNeg) := h.1.2.2.2.1 _ q 3 (by omega)
    have f4 : μ (43 + x1.toNatClampNeg) 4 = α 8 (x1.toNatClampNeg) := h.1.2.2.2.1 _ q 4 (by omega)
    have f5 : μ (43 + x1.toNatClampNeg) 5 = α 9 (x1.toNatClampNeg) := h.1.2.2.2.1 _ q 5 (by omega)
    have f6 : μ (43 + x1.toNatClampNeg) 6 = saidA α 0 (x1.toNatClampNeg) := h.2 _ q 0 (by omega)
    have f7 : μ (43 + x1.toNatClampNeg) 7 = saidA α 1 (x1.toNatClampNeg) := h.2 _ q 1 (by omega)
    have f8 : μ (43 + x1.toNatClampNeg) 8 = saidA α 2 (x1.toNatClampNeg) := h.2 _ q 2 (by omega)
    obtain ⟨p, hp, rfl⟩ := inB_nI (m := 6) (by omega) b
    rw [f0, f1, f2, f4, ix_nI (i := p) (by omega)]
    rfl
  have v1 : inB x1 0 (α 0 0 - 1) = true → vp_in x1 7 := fun a => (VX.vH hf h.1 a).1
  refine sg_X7_goes_0 ?_
  repeat' (first | assumption | intro _ | apply And.intro)
  all_goals simp_all [vp_in, sp_goes]
def sp_drawn (α : Mem) (seed : Int32) : Int32 := if inB seed 0 99999 = true then drwV (fun x => saidA α 2 x) seed (aN α) else -2
theorem drwV_congr {f g : Nat → Int32} {s : Int32} : ∀ n, (∀ i, i < n → f i = g i) → drwV f s n = drwV g s n := by
  intro n
  induction n with
  | zero => intro _; rfl
  | succ n ih =>
    intro q
    unfold drwV
    rw [ih (fun i hi => q i (by omega)), q n (by omega)]
theorem sg_X7_drawn_0 {G : GW} {K : Option Value → Mem → Prop} {μ : Mem} {x1 : Int32}  (h : (((inB x1 (0 : Int32) (99999 : Int32)) = false) → K (some (.int (-2))) μ) ∧ (((inB x1 (0 : Int32) (99999 : Int32)) = true) → (∃ n, n ≤ 7 ∧ μ 10 9 = nI n) ∧ K (some (.int (drwV (fun h => μ (43 + h) 8) x1 (μ 10 9).toNatClampNeg))) μ)) : Ev2 G mX7_drawn 2 0 [(0, .ref 10), (1, .int x1)] [] μ K := by
  refine ev_iload_n dX7_drawn_0 1 rfl ?_
  refine ev_iconst (v := 0) dX7_drawn_1 rfl ?_
  refine ev_ldcw dX7_drawn_2 co_7_262 ?_
  refine e2_callS (w := .int (bi (inB x1 (0 : Int32) (99999 : Int32)))) (μ1 := μ) (as := [.int x1, .int 0, .int 99999]) (st := []) ok_X7_isWithin sv_X7_isWithin ml_7_86 dX7_drawn_5 rfl rfl (Nat.le_of_ble_eq_true rfl) (Nat.le_of_ble_eq_true rfl) (by decide) (ct_X7_isWithin (x1) (0) (99999) μ) ?_
  refine ev_ifeq_bi (tgt := 19) dX7_drawn_8 rfl (fun c1 => ?_) (fun c1 => ?_)
  · have h2 := h.1 c1
    refine ev_bipush (v := (-2)) dX7_drawn_19 rfl ?_
    exact ev_ireturn dX7_drawn_21 rfl True.intro rfl rfl ⟨rfl, h2⟩
  · have h3 := h.2 c1
    refine ev_aload_n dX7_drawn_11 0 rfl (by decide) ?_
    refine ev_iload_n dX7_drawn_12 1 rfl ?_
    have p4 := h3.1
    have h5 := h3.2
    refine e2_callV (w := .int (drwV (fun h => μ (43 + h) 8) x1 (μ 10 9).toNatClampNeg)) (μ1 := μ) (a := 10) (as := [.int x1]) (st := []) ok_X7_livingBy vi_X7_livingBy ml_7_263 hcl_7 kd_10 dX7_drawn_13 rfl rfl (Nat.le_of_ble_eq_true rfl) (Nat.le_of_ble_eq_true rfl) (by decide) (ct_X7_livingBy (x1) μ p4) ?_
    refine ev_goto (tgt := 21) dX7_drawn_16 rfl ?_
    exact ev_ireturn dX7_drawn_21 rfl True.intro rfl rfl ⟨rfl, h5⟩
theorem pb_X7_drawn {G : GW} {α μ : Mem} (hf : WF α) (h : VX α μ) (x1 : Int32) : pubX G mX7_drawn 2 [(0, .ref 10), (1, .int x1)] α μ (.int (sp_drawn α x1)) α := by
  have hk := keepM.rf μ
  have cN : μ 10 9 = α 0 0 := h.1.1.1
  have cR : μ 10 10 = α 0 1 := h.1.1.2.1
  have cX : μ 10 11 = α 0 2 := h.1.1.2.2.1
  have cL : μ 10 12 = α 0 3 := h.1.1.2.2.2.1
  have cT : μ 24 1 = α 0 4 := h.1.1.2.2.2.2
  refine sg_X7_drawn_0 ⟨fun c => ⟨?_, h, hk⟩, fun c => ⟨VX.n hf h.1, ?_, h, hk⟩⟩
  · unfold sp_drawn
    rw [if_neg (by rw [c]; decide)]
  · unfold sp_drawn
    have e : (α 0 0).toNatClampNeg = aN α := rfl
    rw [if_pos c, cN, e]
    rw [drwV_congr (f := fun h => μ (43 + h) 8) (g := fun x => saidA α 2 x) _ (fun i hi => h.2 i hi 2 (by omega))]
