/-! ===== the reference: ways, and what depends on them ===== -/
def scrK (μ ν : Mem) : Prop := ∀ a k, ¬ scrM a k → ν a k = μ a k
theorem scrK.rf (μ : Mem) : scrK μ μ := fun _ _ _ => rfl
theorem scrK.tr {μ ν ξ : Mem} (h1 : scrK μ ν) (h2 : scrK ν ξ) : scrK μ ξ := fun a k h => (h2 a k h).trans (h1 a k h)
theorem scrK.only {μ ν : Mem} {lo hi : Nat} (h : onlyM lo hi μ ν) (h1 : 97 ≤ lo) (h2 : hi ≤ 106) : scrK μ ν := fun a k hs => by rw [h a (fun q => hs (Or.inr (Or.inl ⟨by omega, by omega⟩)))]
theorem VM.scr {α μ ν : Mem} (h : VM α μ) (hf : WF α) (ho : scrK μ ν) : VM α ν ∧ keepX μ ν := ⟨h.same hf.1 (fun a k _ hs _ => ho a k hs), fun a ha => funext fun k => ho a k (by unfold scrM; omega)⟩
def chP (w : Nat → Nat → Int32) (a : Nat) (μ : Mem) : Prop := a < 7 ∧ Inv w a (get4 101 μ) ∧ μ 103 a = -1
def wyR (μ : Mem) (l : List Nat) (ν : Mem) : Prop := (∀ r, r ≠ 82 → r ≠ 106 → ν r = μ r) ∧ (∀ k, k ≠ 38 → ν 82 k = μ 82 k) ∧ ν 82 38 = nI l.length ∧ ∀ i, i < l.length → ν 106 (l.length - 1 - i) = nI (l.getD i 0)
def wyP (μ : Mem) : Prop := ∃ n, n ≤ 7 ∧ μ 82 38 = nI n ∧ ∀ k, k < n → vp_in (μ 106 k) 7
def wsN (μ : Mem) : Nat → Int32
  | 0 => 0
  | k + 1 => wsN μ k ||| (if μ 102 (μ 106 k).toNatClampNeg = 7 then (0 : Int32) else 1 <<< (μ 102 (μ 106 k).toNatClampNeg &&& 31))
theorem sg_X8_wayTo_0 {G : GW} {K : Option Value → Mem → Prop} {μ : Mem} {x1 : Int32}  (h : Ev2 G mX8_wayTo 1 7 [(0, .ref 82), (1, .int x1), (2, .int x1)] [] (mset μ 82 38 0) K) : Ev2 G mX8_wayTo 1 0 [(0, .ref 82), (1, .int x1)] [] μ K := by
  refine ev_aload_n dX8_wayTo_0 0 rfl (by decide) ?_
  refine ev_iconst (v := 0) dX8_wayTo_1 rfl ?_
  refine ev_putI fl_8_259 ⟨rfl, rfl, rfl⟩ (fun r hr => by cases hr; rfl) kd_82 dX8_wayTo_2 ?_
  refine ev_iload_n dX8_wayTo_5 1 rfl ?_
  refine ev_istore_n (lv' := [(0, .ref 82), (1, .int x1), (2, .int x1)]) dX8_wayTo_6 (by decide) [1, 2, 0] rfl ?_
  exact h
theorem sg_X8_wayTo_7 {G : GW} {K : Option Value → Mem → Prop} {μ : Mem} {x1 x2 : Int32}  (h : (vp_in x2 7) ∧ (((μ 103 x2.toNatClampNeg) = (-1)) → Ev2 G mX8_wayTo 1 44 [(0, .ref 82), (2, .int (μ 82 38)), (3, .int x1)] [] μ K) ∧ ((¬ ((μ 103 x2.toNatClampNeg) = (-1))) → (vp_in x2 7) ∧ Ev2 G mX8_wayTo 1 7 [(0, .ref 82), (1, .int x1), (2, .int (μ 103 x2.toNatClampNeg))] [] (mset μ 82 38 ((μ 82 38) + 1)) K)) : Ev2 G mX8_wayTo 1 7 [(0, .ref 82), (1, .int x1), (2, .int x2)] [] μ K := by
  refine ev_aload_n dX8_wayTo_7 0 rfl (by decide) ?_
  refine ev_getR' fl_8_207 rfl kd_82 rf_82_34 dX8_wayTo_8 ?_
  refine ev_iload_n dX8_wayTo_11 2 rfl ?_
  have p1 := h.1
  have h2 := h.2
  refine ev_iaload' (v := (μ 103 x2.toNatClampNeg)) kd_103 ln_103 p1 rfl dX8_wayTo_12 ?_
  refine ev_iconst (v := (-1)) dX8_wayTo_13 rfl ?_
  refine ev_icmp_eq (tgt := 37) dX8_wayTo_14 rfl (fun c3 => ?_) (fun c3 => ?_)
  · have h4 := h2.1 c3
    refine ev_aload_n dX8_wayTo_37 0 rfl (by decide) ?_
    refine ev_getI' (v := (μ 82 38)) fl_8_259 rfl kd_82 rfl dX8_wayTo_38 ?_
    refine ev_istore_n (lv' := [(0, .ref 82), (1, .int x1), (2, .int (μ 82 38))]) dX8_wayTo_41 (by decide) [1, 2, 0] rfl ?_
    refine ev_iload_n dX8_wayTo_42 1 rfl ?_
    refine ev_istore_n (lv' := [(0, .ref 82), (1, .int x1), (2, .int (μ 82 38)), (3, .int x1)]) dX8_wayTo_43 (by decide) [1, 2, 3, 0] rfl ?_
    refine EvW.less [0, 2, 3] (lv' := [(0, .ref 82), (2, .int (μ 82 38)), (3, .int x1)]) rfl ?_
    exact h4
  · have h5 := h2.2 c3
    refine ev_aload_n dX8_wayTo_17 0 rfl (by decide) ?_
    refine ev_dup dX8_wayTo_18 rfl ?_
    refine ev_getI' (v := (μ 82 38)) fl_8_259 rfl kd_82 rfl dX8_wayTo_19 ?_
    refine ev_iconst (v := 1) dX8_wayTo_22 rfl ?_
    refine ev_iadd dX8_wayTo_23 ?_
    refine ev_putI fl_8_259 ⟨rfl, rfl, rfl⟩ (fun r hr => by cases hr; rfl) kd_82 dX8_wayTo_24 ?_
    refine ev_aload_n dX8_wayTo_27 0 rfl (by decide) ?_
    refine ev_getR' fl_8_207 rfl kd_82 rf_82_34 dX8_wayTo_28 ?_
    refine ev_iload_n dX8_wayTo_31 2 rfl ?_
    have p6 := h5.1
    have h7 := h5.2
    refine ev_iaload' (v := (μ 103 x2.toNatClampNeg)) kd_103 ln_103 p6 rfl dX8_wayTo_32 ?_
    refine ev_istore_n (lv' := [(0, .ref 82), (1, .int x1), (2, .int (μ 103 x2.toNatClampNeg))]) dX8_wayTo_33 (by decide) [1, 2, 0] rfl ?_
    refine ev_goto (tgt := 7) dX8_wayTo_34 rfl ?_
    exact h7
theorem sg_X8_wayTo_44 {G : GW} {K : Option Value → Mem → Prop} {μ : Mem} {x2 x3 : Int32}  (h : (vp_in x3 7) ∧ (((μ 103 x3.toNatClampNeg) = (-1)) → K none μ) ∧ ((¬ ((μ 103 x3.toNatClampNeg) = (-1))) → (vp_in (x2 + (-1)) 7) ∧ (vp_in x3 7) ∧ Ev2 G mX8_wayTo 1 44 [(0, .ref 82), (2, .int (x2 + (-1))), (3, .int (μ 103 x3.toNatClampNeg))] [] (mset μ 106 (x2 + (-1)).toNatClampNeg x3) K)) : Ev2 G mX8_wayTo 1 44 [(0, .ref 82), (2, .int x2), (3, .int x3)] [] μ K := by
  refine ev_aload_n dX8_wayTo_44 0 rfl (by decide) ?_
  refine ev_getR' fl_8_207 rfl kd_82 rf_82_34 dX8_wayTo_45 ?_
  refine ev_iload_n dX8_wayTo_48 2 rfl ?_
  have p1 := h.1
  have h2 := h.2
  refine ev_iaload' (v := (μ 103 x3.toNatClampNeg)) kd_103 ln_103 p1 rfl dX8_wayTo_49 ?_
  refine ev_iconst (v := (-1)) dX8_wayTo_50 rfl ?_
  refine ev_icmp_eq (tgt := 74) dX8_wayTo_51 rfl (fun c3 => ?_) (fun c3 => ?_)
  · have h4 := h2.1 c3
    exact ev_return dX8_wayTo_74 rfl rfl rfl ⟨rfl, h4⟩
  · have h5 := h2.2 c3
    refine ev_iinc (v := (x2 + (-1))) (lv' := [(0, .ref 82), (2, .int (x2 + (-1))), (3, .int x3)]) dX8_wayTo_54 1 rfl rfl (by decide) [1, 0, 2] rfl ?_
    refine ev_aload_n dX8_wayTo_57 0 rfl (by decide) ?_
    refine ev_getR' fl_8_216 rfl kd_82 rf_82_37 dX8_wayTo_58 ?_
    refine ev_iload_n dX8_wayTo_61 1 rfl ?_
    refine ev_iload_n dX8_wayTo_62 2 rfl ?_
    have p6 := h5.1
    have h7 := h5.2
    refine ev_iastore' (j := (x2 + (-1)).toNatClampNeg) kd_106 ln_106 p6 rfl dX8_wayTo_63 ?_
    refine ev_aload_n dX8_wayTo_64 0 rfl (by decide) ?_
    refine ev_getR' fl_8_207 rfl kd_82 rf_82_34 dX8_wayTo_65 ?_
    refine ev_iload_n dX8_wayTo_68 2 rfl ?_
    have p8 := h7.1
    have h9 := h7.2
    refine ev_iaload' (v := (μ 103 x3.toNatClampNeg)) kd_103 ln_103 p8 rfl dX8_wayTo_69 ?_
    refine ev_istore_n (lv' := [(0, .ref 82), (2, .int (x2 + (-1))), (3, .int (μ 103 x3.toNatClampNeg))]) dX8_wayTo_70 (by decide) [1, 2, 0] rfl ?_
    refine ev_goto (tgt := 44) dX8_wayTo_71 rfl ?_
    exact h9
theorem lp_X8_wayA {G : GW} {K : Option Value → Mem → Prop} {w : Nat → Nat → Int32} {a : Nat} {μ : Mem} (hc : chP w a μ) {x : Int32} {l : List Nat} (hk : Ev2 G mX8_wayTo 1 44 [(0, .ref 82), (2, .int (nI l.length)), (3, .int x)] [] (mset μ 82 38 (nI l.length)) K) : ∀ f p c, p < 7 → rnkS (get4 101 μ) p ≤ f → c + (backL (get4 101 μ) 7 p).length = l.length → Ev2 G mX8_wayTo 1 7 [(0, .ref 82), (1, .int x), (2, .int (nI p))] [] (mset μ 82 38 (nI c)) K := by
  obtain ⟨ha, hi, h3⟩ := hc
  have last : ∀ c, c + (backL (get4 101 μ) 7 a).length = l.length → Ev2 G mX8_wayTo 1 7 [(0, .ref 82), (1, .int x), (2, .int (nI a))] [] (mset μ 82 38 (nI c)) K := by
    intro c h
    rw [backL_a hi] at h
    obtain rfl : c = l.length := h
    refine sg_X8_wayTo_7 ⟨vp_nI ha (by omega), fun _ => ?_, fun q => absurd ?_ q⟩
    · rw [mset_same]
      exact hk
    · rw [ix_nI (by omega), mset_ne (by omega)]
      exact h3
  intro f
  induction f with
  | zero =>
    intro p c hp hr h
    by_cases e : p = a
    · subst e
      exact last c h
    · obtain ⟨q, hq, -, hr2, -⟩ := back_step hi hp e
      omega
  | succ f ih =>
    intro p c hp hr h
    by_cases e : p = a
    · subst e
      exact last c h
    · obtain ⟨q, hq, e2, hr2, e3⟩ := back_step hi hp e
      have e2 : μ 103 p = nI q := e2
      rw [e3, List.length_cons] at h
      refine sg_X8_wayTo_7 ⟨vp_nI hp (by omega), fun c => ?_, fun _ => ⟨vp_nI hp (by omega), ?_⟩⟩
      · rw [ix_nI (by omega), mset_ne (by omega), e2] at c
        exact absurd c (nI_m (by omega))
      · rw [ix_nI (by omega), mset_ne (by omega), e2, mset_same, mset_mset, nI_1]
        exact ih q (c + 1) hq (by omega) (by omega)
theorem lp_X8_wayB {G : GW} {K : Option Value → Mem → Prop} {w : Nat → Nat → Int32} {a : Nat} {μ : Mem} (hc : chP w a μ) : ∀ f p (ν : Mem), p < 7 → rnkS (get4 101 μ) p ≤ f → (∀ r, r ≠ 82 → r ≠ 106 → ν r = μ r) → (∀ ξ : Mem, (∀ r, r ≠ 106 → ξ r = ν r) → (∀ i, i < (backL (get4 101 μ) 7 p).length → ξ 106 ((backL (get4 101 μ) 7 p).length - 1 - i) = nI ((backL (get4 101 μ) 7 p).getD i 0)) → (∀ k, (backL (get4 101 μ) 7 p).length ≤ k → ξ 106 k = ν 106 k) → K none ξ) → Ev2 G mX8_wayTo 1 44 [(0, .ref 82), (2, .int (nI (backL (get4 101 μ) 7 p).length)), (3, .int (nI p))] [] ν K := by
  obtain ⟨ha, hi, h3⟩ := hc
  have last : ∀ ν : Mem, (∀ r, r ≠ 82 → r ≠ 106 → ν r = μ r) → (∀ ξ : Mem, (∀ r, r ≠ 106 → ξ r = ν r) → (∀ i, i < (backL (get4 101 μ) 7 a).length → ξ 106 ((backL (get4 101 μ) 7 a).length - 1 - i) = nI ((backL (get4 101 μ) 7 a).getD i 0)) → (∀ k, (backL (get4 101 μ) 7 a).length ≤ k → ξ 106 k = ν 106 k) → K none ξ) → Ev2 G mX8_wayTo 1 44 [(0, .ref 82), (2, .int (nI (backL (get4 101 μ) 7 a).length)), (3, .int (nI a))] [] ν K := by
    intro ν hν hk
    refine sg_X8_wayTo_44 ⟨vp_nI ha (by omega), fun _ => hk ν (fun _ _ => rfl) (fun i h => ?_) (fun _ _ => rfl), fun q => absurd ?_ q⟩
    · rw [backL_a hi] at h
      exact absurd h (Nat.not_lt_zero i)
    · rw [ix_nI (by omega), hν 103 (by omega) (by omega)]
      exact h3
  intro f
  induction f with
  | zero =>
    intro p ν hp hr hν hk
    by_cases e : p = a
    · subst e
      exact last ν hν hk
    · obtain ⟨q, hq, -, hr2, -⟩ := back_step hi hp e
      omega
  | succ f ih =>
    intro p ν hp hr hν hk
    by_cases e : p = a
    · subst e
      exact last ν hν hk
    · obtain ⟨q, hq, e2, hr2, e3⟩ := back_step hi hp e
      have e2 : μ 103 p = nI q := e2
      have hn := backL_rnk hi 7 p hp
      have hn6 := rnkS_6 (τ := get4 101 μ) hp
      rw [e3] at hk hn ⊢
      generalize hL : backL (get4 101 μ) 7 q = L at hk hn ⊢
      rw [List.length_cons] at hk hn ⊢
      have em : nI (L.length + 1) + (-1) = nI L.length := nI_q1 (by omega)
      refine sg_X8_wayTo_44 ⟨vp_nI hp (by omega), fun c => ?_, fun _ => ?_⟩
      · rw [ix_nI (by omega), hν 103 (by omega) (by omega), e2] at c
        exact absurd c (nI_m (by omega))
      · rw [em, ix_nI (by omega), ix_nI (by omega), hν 103 (by omega) (by omega), e2]
        refine ⟨vp_nI (by omega) (by omega), vp_nI hp (by omega), ?_⟩
        have hx := ih q (mset ν 106 L.length (nI p)) hq (by omega) (fun r h1 h2 => by rw [mset_ne h2]; exact hν r h1 h2)
        rw [hL] at hx
        refine hx (fun ξ k1 k2 k3 => hk ξ (fun r h => by rw [k1 r h, mset_ne h]) (fun i h => ?_) (fun k h => ?_))
        · cases i with
          | zero =>
            show ξ 106 L.length = nI p
            rw [k3 _ (Nat.le_refl _), mset_same]
          | succ i =>
            have := k2 i (by omega)
            rw [show L.length + 1 - 1 - (i + 1) = L.length - 1 - i by omega]
            exact this
        · rw [k3 k (by omega), mset_other (by omega)]
theorem ct_X8_wayTo {G : GW} (x1 : Int32) (μ : Mem) (hp : (∃ w a, chP w a μ) ∧ inB x1 0 6 = true) : Ev2 G mX8_wayTo 1 0 [(0, .ref 82), (1, .int x1)] [] μ (fun v μ' => v = none ∧ wyR μ (backL (get4 101 μ) 7 x1.toNatClampNeg) μ') := by
  obtain ⟨⟨w, a, hc⟩, h1⟩ := hp
  obtain ⟨p, hp, rfl⟩ := inB_p h1
  rw [ix_nI (by omega)]
  have h6 := rnkS_6 (τ := get4 101 μ) hp
  have e0 : (0 : Int32) = nI 0 := rfl
  refine sg_X8_wayTo_0 (lp_X8_wayA hc (l := backL (get4 101 μ) 7 p) ?_ 6 p 0 hp h6 (Nat.zero_add _))
  refine lp_X8_wayB hc 6 p _ hp h6 (fun r h1 _ => mset_ne h1) (fun ξ k1 k2 k3 => ⟨rfl, fun r h1 h2 => by rw [k1 r h2, mset_ne h1], fun k h => by rw [k1 82 (by omega), mset_other (by omega)], by rw [k1 82 (by omega), mset_same], k2⟩)
theorem sg_X8_waySet_0 {G : GW} {K : Option Value → Mem → Prop} {μ : Mem}   (h : Ev2 G mX8_waySet 1 4 [(0, .ref 82), (1, .int 0), (2, .int 0)] [] μ K) : Ev2 G mX8_waySet 1 0 [(0, .ref 82)] [] μ K := by
  refine ev_iconst (v := 0) dX8_waySet_0 rfl ?_
  refine ev_istore_n (lv' := [(0, .ref 82), (1, .int 0)]) dX8_waySet_1 (by decide) [1, 0] rfl ?_
  refine ev_iconst (v := 0) dX8_waySet_2 rfl ?_
  refine ev_istore_n (lv' := [(0, .ref 82), (1, .int 0), (2, .int 0)]) dX8_waySet_3 (by decide) [1, 2, 0] rfl ?_
  exact h
theorem sg_X8_waySet_4 {G : GW} {K : Option Value → Mem → Prop} {μ : Mem} {x1 x2 : Int32}  (h : (((μ 82 38) ≤ x2) → K (some (.int x1)) μ) ∧ ((¬ ((μ 82 38) ≤ x2)) → (vp_in x2 7) ∧ (vp_in (μ 106 x2.toNatClampNeg) 7) ∧ ((¬ (μ 102 (μ 106 x2.toNatClampNeg).toNatClampNeg) = 7) → (vp_in x2 7) ∧ (vp_in (μ 106 x2.toNatClampNeg) 7) ∧ ∀ y15 : Int32, y15 = (x1 ||| ((1 : Int32) <<< ((μ 102 (μ 106 x2.toNatClampNeg).toNatClampNeg) &&& 31))) → Ev2 G mX8_waySet 1 4 [(0, .ref 82), (1, .int y15), (2, .int (x2 + 1))] [] μ K) ∧ (((μ 102 (μ 106 x2.toNatClampNeg).toNatClampNeg) = 7) → Ev2 G mX8_waySet 1 4 [(0, .ref 82), (1, .int (x1 ||| 0)), (2, .int (x2 + 1))] [] μ K))) : Ev2 G mX8_waySet 1 4 [(0, .ref 82), (1, .int x1), (2, .int x2)] [] μ K := by
  refine ev_iload_n dX8_waySet_4 2 rfl ?_
  refine ev_aload_n dX8_waySet_5 0 rfl (by decide) ?_
  refine ev_getI' (v := (μ 82 38)) fl_8_259 rfl kd_82 rfl dX8_waySet_6 ?_
  refine ev_icmp_ge (tgt := 54) dX8_waySet_9 rfl (fun c1 => ?_) (fun c1 => ?_)
  · have h2 := h.1 c1
    refine ev_iload_n dX8_waySet_54 1 rfl ?_
    exact ev_ireturn dX8_waySet_55 rfl True.intro rfl rfl ⟨rfl, h2⟩
  · have h3 := h.2 c1
    refine ev_iload_n dX8_waySet_12 1 rfl ?_
    refine ev_aload_n dX8_waySet_13 0 rfl (by decide) ?_
    refine ev_getR' fl_8_204 rfl kd_82 rf_82_33 dX8_waySet_14 ?_
    refine ev_aload_n dX8_waySet_17 0 rfl (by decide) ?_
    refine ev_getR' fl_8_216 rfl kd_82 rf_82_37 dX8_waySet_18 ?_
    refine ev_iload_n dX8_waySet_21 2 rfl ?_
    have p4 := h3.1
    have h5 := h3.2
    refine ev_iaload' (v := (μ 106 x2.toNatClampNeg)) kd_106 ln_106 p4 rfl dX8_waySet_22 ?_
    have p6 := h5.1
    have h7 := h5.2
    refine ev_iaload' (v := (μ 102 (μ 106 x2.toNatClampNeg).toNatClampNeg)) kd_102 ln_102 p6 rfl dX8_waySet_23 ?_
    refine ev_bipush (v := 7) dX8_waySet_24 rfl ?_
    refine ev_icmp_ne (tgt := 33) dX8_waySet_26 rfl (fun c8 => ?_) (fun c8 => ?_)
    · have h9 := h7.1 c8
      refine ev_iconst (v := 1) dX8_waySet_33 rfl ?_
      refine ev_aload_n dX8_waySet_34 0 rfl (by decide) ?_
      refine ev_getR' fl_8_204 rfl kd_82 rf_82_33 dX8_waySet_35 ?_
      refine ev_aload_n dX8_waySet_38 0 rfl (by decide) ?_
      refine ev_getR' fl_8_216 rfl kd_82 rf_82_37 dX8_waySet_39 ?_
      refine ev_iload_n dX8_waySet_42 2 rfl ?_
      have p11 := h9.1
      have h12 := h9.2
      refine ev_iaload' (v := (μ 106 x2.toNatClampNeg)) kd_106 ln_106 p11 rfl dX8_waySet_43 ?_
      have p13 := h12.1
      have h14 := h12.2
      refine ev_iaload' (v := (μ 102 (μ 106 x2.toNatClampNeg).toNatClampNeg)) kd_102 ln_102 p13 rfl dX8_waySet_44 ?_
      refine ev_ishl dX8_waySet_45 ?_
      refine ev_ior dX8_waySet_46 ?_
      refine ev_top (fun y15 ey15 => ?_)
      have h16 := h14 y15 ey15
      refine ev_istore_n (lv' := [(0, .ref 82), (1, .int y15), (2, .int x2)]) dX8_waySet_47 (by decide) [1, 0, 2] rfl ?_
      refine ev_iinc (v := (x2 + 1)) (lv' := [(0, .ref 82), (1, .int y15), (2, .int (x2 + 1))]) dX8_waySet_48 2 rfl rfl (by decide) [1, 2, 0] rfl ?_
      refine ev_goto (tgt := 4) dX8_waySet_51 rfl ?_
      exact h16
    · have h10 := h7.2 c8
      refine ev_iconst (v := 0) dX8_waySet_29 rfl ?_
      refine ev_goto (tgt := 46) dX8_waySet_30 rfl ?_
      refine ev_ior dX8_waySet_46 ?_
      refine ev_istore_n (lv' := [(0, .ref 82), (1, .int (x1 ||| 0)), (2, .int x2)]) dX8_waySet_47 (by decide) [1, 0, 2] rfl ?_
      refine ev_iinc (v := (x2 + 1)) (lv' := [(0, .ref 82), (1, .int (x1 ||| 0)), (2, .int (x2 + 1))]) dX8_waySet_48 2 rfl rfl (by decide) [1, 2, 0] rfl ?_
      refine ev_goto (tgt := 4) dX8_waySet_51 rfl ?_
      exact h10
theorem ct_X8_waySet {G : GW} (μ : Mem) (hp : wyP μ) : Ev2 G mX8_waySet 1 0 [(0, .ref 82)] [] μ (fun v μ' => v = some (.int (wsN μ (μ 82 38).toNatClampNeg)) ∧ μ' = μ) := by
  obtain ⟨n, hn, e, hv⟩ := hp
  rw [e, ix_nI (by omega)]
  have L : ∀ j i, i + j = n → Ev2 G mX8_waySet 1 4 [(0, .ref 82), (1, .int (wsN μ i)), (2, .int (nI i))] [] μ (fun v μ' => v = some (.int (wsN μ n)) ∧ μ' = μ) := by
    intro j
    induction j with
    | zero =>
      intro i hi
      obtain rfl : i = n := hi
      refine sg_X8_waySet_4 ⟨fun _ => ⟨rfl, rfl⟩, fun c => absurd ?_ c⟩
      rw [e]
      exact Int32.le_refl _
    | succ j ih =>
      intro i hi
      have hx := ih (i + 1) (by omega)
      have es : wsN μ (i + 1) = wsN μ i ||| (if μ 102 (μ 106 i).toNatClampNeg = 7 then (0 : Int32) else 1 <<< (μ 102 (μ 106 i).toNatClampNeg &&& 31)) := rfl
      rw [es, ← nI_1] at hx
      refine sg_X8_waySet_4 ⟨fun c => ?_, fun _ => ⟨vp_nI (by omega) (by omega), ?_⟩⟩
      · rw [e] at c
        exact absurd c (nI_ge (by omega) (by omega))
      · rw [ix_nI (by omega)]
        refine ⟨hv i (by omega), fun c => ⟨vp_nI (by omega) (by omega), hv i (by omega), fun y hy => ?_⟩, fun c => ?_⟩
        · rw [if_neg c] at hx
          rw [hy]
          exact hx
        · rw [if_pos c] at hx
          exact hx
  exact sg_X8_waySet_0 (L n 0 (Nat.zero_add n))
/-! a way shown -/
def wayQ (α : Mem) (set : Int32) (a b : Nat) (ν : Mem) : Prop := (ν 82 38 = nI (wayR α set a b).length ∧ ∀ i, i < (wayR α set a b).length → ν 106 ((wayR α set a b).length - 1 - i) = nI ((wayR α set a b).getD i 0)) ∧ ∀ k, k < 7 → ν 101 k = refS α set a 0 k ∧ ν 102 k = refS α set a 1 k ∧ ν 103 k = refS α set a 2 k
theorem eq7.simF {a : Nat} {σ τ : Mem} (h : eq7 σ τ) : simF a σ τ := fun k hk => ⟨h 0 (by omega) k hk, h 1 (by omega) k hk, h 3 (by omega) k hk, fun _ => h 2 (by omega) k hk⟩
theorem backL_cg {w : Nat → Nat → Int32} {a : Nat} {σ τ : Mem} (hi : Inv w a σ) (e : eq7 σ τ) : ∀ f p, p < 7 → backL σ f p = backL τ f p := by
  intro f
  induction f with
  | zero => intro p _; rfl
  | succ f ih =>
    intro p hp
    have e1 : backL σ (f + 1) p = if σ 1 p = -1 then [] else p :: backL σ f (σ 2 p).toNatClampNeg := rfl
    have e2 : backL τ (f + 1) p = if τ 1 p = -1 then [] else p :: backL τ f (τ 2 p).toNatClampNeg := rfl
    rw [e1, e2, e 1 (by omega) p hp, e 2 (by omega) p hp]
    by_cases c : p = a
    · have : τ 1 p = -1 := by rw [← e 1 (by omega) p hp, c]; exact hi.2.1.2.1
      rw [if_pos this, if_pos this]
    · obtain ⟨-, q, hq, eq, -⟩ := hi.2.2.1 p hp c
      rw [← e 2 (by omega) p hp, eq, ix_nI (by omega), ih q hq]
theorem ref_ch {α ν : Mem} {set : Int32} {a : Nat} (hf : WF α) (hs : setOK (aN α) set) (ha : a < 7) (h : eq7 (get4 101 ν) (refS α set a)) : chP (wA α) a ν := by
  obtain ⟨r1, r2⟩ := refS_inv hf hs ha
  exact ⟨ha, r1.sim ha h.sy.simF, (h 2 (by omega) a ha).trans r2⟩
theorem ref_way {α μ ν : Mem} {set : Int32} {a b : Nat} (hf : WF α) (hs : setOK (aN α) set) (ha : a < 7) (hb : b < 7) (h : eq7 (get4 101 μ) (refS α set a)) (hw : wyR μ (backL (get4 101 μ) 7 b) ν) : wayQ α set a b ν ∧ scrK μ ν := by
  obtain ⟨r1, r2⟩ := refS_inv hf hs ha
  have e : backL (get4 101 μ) 7 b = wayR α set a b := (backL_cg r1 h.sy 7 b hb).symm
  rw [e] at hw
  obtain ⟨h1, h2, h3, h4⟩ := hw
  refine ⟨⟨⟨h3, h4⟩, fun k hk => ⟨?_, ?_, ?_⟩⟩, fun a' k hs => ?_⟩
  · rw [h1 101 (by omega) (by omega)]; exact h 0 (by omega) k hk
  · rw [h1 102 (by omega) (by omega)]; exact h 1 (by omega) k hk
  · rw [h1 103 (by omega) (by omega)]; exact h 2 (by omega) k hk
  · by_cases c : a' = 82
    · subst c
      exact h2 k (fun q => hs (by unfold scrM; omega))
    · rw [h1 a' c (fun q => hs (by unfold scrM; omega))]
theorem wayR_mem {α : Mem} (hf : WF α) {set : Int32} (hs : setOK (aN α) set) {a b : Nat} (ha : a < 7) (hb : b < 7) : ∀ x, x ∈ wayR α set a b → x < 7 ∧ x ≠ a := by
  obtain ⟨r1, r2⟩ := refS_inv hf hs ha
  have key : ∀ f p, p < 7 → ∀ x, x ∈ backL (refS α set a) f p → x < 7 ∧ x ≠ a := by
    intro f
    induction f with
    | zero => intro p _ x hx; exact absurd hx List.not_mem_nil
    | succ f ih =>
      intro p hp x hx
      by_cases c : p = a
      · rw [c, backL_a r1] at hx
        exact absurd hx List.not_mem_nil
      · obtain ⟨q, hq, e, -, e2⟩ := backL_s r1 hp c f
        rw [e2] at hx
        rcases List.mem_cons.mp hx with rfl | hx
        · exact ⟨hp, c⟩
        · exact ih q hq x hx
  exact key 7 b hb
/-- the piece i of the way, from its first -/
theorem wayQ.at_ {α ν : Mem} {set : Int32} {a b : Nat} (hf : WF α) (hs : setOK (aN α) set) (ha : a < 7) (hb : b < 7) (h : wayQ α set a b ν) {i : Nat} (hi : i < (wayR α set a b).length) : ∃ p, p < 7 ∧ p ≠ a ∧ ν 106 i = nI p ∧ (wayR α set a b).drop ((wayR α set a b).length - 1 - i) = p :: (wayR α set a b).drop ((wayR α set a b).length - i) ∧ (wayR α set a b).getD ((wayR α set a b).length - 1 - i) 0 = p := by
  have hm := wayR_mem hf hs ha hb
  have h1 := h.1.2 ((wayR α set a b).length - 1 - i) (by omega)
  rw [show (wayR α set a b).length - 1 - ((wayR α set a b).length - 1 - i) = i by omega] at h1
  generalize wayR α set a b = l at hi hm h1 ⊢
  have hj : l.length - 1 - i < l.length := by omega
  have hg : l.getD (l.length - 1 - i) 0 = l[l.length - 1 - i] := by
    rw [List.getD_eq_getElem?_getD, List.getElem?_eq_getElem hj]
    rfl
  have hq := hm _ (List.getElem_mem hj)
  refine ⟨l[l.length - 1 - i], hq.1, hq.2, by rw [h1, hg], ?_, hg⟩
  rw [List.drop_eq_getElem_cons hj, show l.length - 1 - i + 1 = l.length - i by omega]
theorem wayQ.P {α ν : Mem} {set : Int32} {a b : Nat} (hf : WF α) (hs : setOK (aN α) set) (ha : a < 7) (hb : b < 7) (h : wayQ α set a b ν) : wyP ν := by
  refine ⟨_, Nat.le_trans (wayR_len hf hs ha hb) (by omega), h.1.1, fun k hk => ?_⟩
  obtain ⟨p, hp, -, e, -⟩ := h.at_ hf hs ha hb hk
  rw [e]
  exact vp_nI hp (by omega)
def orR (τ : Mem) : List Nat → Int32
  | [] => 0
  | p :: l => orR τ l ||| (if τ 1 p = 7 then (0 : Int32) else 1 <<< (τ 1 p &&& 31))
theorem orR_eq (τ : Mem) : ∀ (l : List Nat) (acc : Int32), wayHs τ acc l = acc ||| orR τ l := by
  intro l
  induction l with
  | nil => intro acc; exact Int32.or_zero.symm
  | cons p l ih =>
    intro acc
    show wayHs τ (if τ 1 p = 7 then acc else acc ||| (1 <<< (τ 1 p &&& 31))) l = acc ||| (orR τ l ||| (if τ 1 p = 7 then (0 : Int32) else 1 <<< (τ 1 p &&& 31)))
    rw [ih, Int32.or_comm (orR τ l), ← Int32.or_assoc]
    split
    · rw [Int32.or_zero]
    · rfl
theorem orR_key {τ ν : Mem} {l : List Nat} (h1 : ∀ i, i < l.length → ∃ p, p < 7 ∧ ν 106 i = nI p ∧ l.drop (l.length - 1 - i) = p :: l.drop (l.length - i)) (h2 : ∀ k, k < 7 → ν 102 k = τ 1 k) : ∀ k, k ≤ l.length → wsN ν k = orR τ (l.drop (l.length - k)) := by
  intro k
  induction k with
  | zero =>
    intro _
    rw [Nat.sub_zero, List.drop_length]
    rfl
  | succ k ih =>
    intro hk
    obtain ⟨p, hp, e, e2⟩ := h1 k (by omega)
    rw [show l.length - (k + 1) = l.length - 1 - k by omega, e2]
    show wsN ν k ||| (if ν 102 (ν 106 k).toNatClampNeg = 7 then (0 : Int32) else 1 <<< (ν 102 (ν 106 k).toNatClampNeg &&& 31)) = orR τ _ ||| (if τ 1 p = 7 then (0 : Int32) else 1 <<< (τ 1 p &&& 31))
    rw [ih (by omega), e, ix_nI (by omega), h2 p hp]
theorem wayQ.set {α ν : Mem} {set : Int32} {a b : Nat} (hf : WF α) (hs : setOK (aN α) set) (ha : a < 7) (hb : b < 7) (h : wayQ α set a b ν) : wsN ν (ν 82 38).toNatClampNeg = wayHs (refS α set a) 0 (wayR α set a b) := by
  have hl := wayR_len hf hs ha hb
  have key := orR_key (τ := refS α set a) (ν := ν) (l := wayR α set a b) (fun i hi => by
    obtain ⟨p, hp, -, e, e2, -⟩ := h.at_ hf hs ha hb hi
    exact ⟨p, hp, e, e2⟩) (fun k hk => (h.2 k hk).2.1) _ (Nat.le_refl _)
  have e1 := h.1.1
  clear h
  generalize wayR α set a b = l at *
  generalize refS α set a = τ at *
  rw [e1, ix_nI (by omega), key, Nat.sub_self, orR_eq, Int32.zero_or, List.drop_zero]
def smR (w : Nat → Nat → Int32) (τ : Mem) : List Nat → Int32
  | [] => 0
  | p :: l => smR w τ l + (if τ 1 p = 7 then w (τ 2 p).toNatClampNeg p else 0)
theorem smR_eq (w : Nat → Nat → Int32) (τ : Mem) : ∀ (l : List Nat) (acc : Int32), wlkS w τ acc l = acc + smR w τ l := by
  intro l
  induction l with
  | nil => intro acc; exact (Int32.add_zero acc).symm
  | cons p l ih =>
    intro acc
    show wlkS w τ (if τ 1 p = 7 then acc + w (τ 2 p).toNatClampNeg p else acc) l = acc + (smR w τ l + (if τ 1 p = 7 then w (τ 2 p).toNatClampNeg p else 0))
    rw [ih, Int32.add_comm (smR w τ l), ← Int32.add_assoc]
    split
    · rfl
    · rw [Int32.add_zero]
/-! every one, worth -/
theorem VM.all {α μ : Mem} (h : VM α μ) : ((1 : Int32) <<< (μ 82 4 &&& 31)) - 1 = allA α := by
  unfold allA
  rw [h.1.1]
theorem sg_X8_all_0 {G : GW} {K : Option Value → Mem → Prop} {μ : Mem} {α : Mem} (hf : WF α)   (h : (VM α μ ∧ setOK (aN α) ((((1 : Int32) <<< (μ 82 4 &&& 31)) - 1))) ∧ ∀ (z3 : Int32) (μ4 : Mem), (z3 = ridA α ((((1 : Int32) <<< (μ 82 4 &&& 31)) - 1)) ∧ onlyM 99 105 μ μ4) → K (some (.int z3)) μ4) : Ev2 G mX8_all 7 0 [(0, .ref 82)] [] μ K := by
  refine ev_aload_n dX8_all_0 0 rfl (by decide) ?_
  refine ev_aload_n dX8_all_1 0 rfl (by decide) ?_
  refine e2_callV (w := .int ((((1 : Int32) <<< (μ 82 4 &&& 31)) - 1))) (μ1 := μ) (a := 82) (as := []) (st := [.ref 82]) ok_X8_everyOne vi_X8_everyOne ml_8_262 hcl_8 kd_82 dX8_all_2 rfl rfl (Nat.le_of_ble_eq_true rfl) (Nat.le_of_ble_eq_true rfl) (by decide) (ct_X8_everyOne μ) ?_
  have p1 := h.1
  have h2 := h.2
  refine e2_callVr (Rl := fun z3 μ4 => z3 = ridA α ((((1 : Int32) <<< (μ 82 4 &&& 31)) - 1)) ∧ onlyM 99 105 μ μ4) (a := 82) (as := [.int ((((1 : Int32) <<< (μ 82 4 &&& 31)) - 1))]) (st := []) ok_X8_ridden vi_X8_ridden ml_8_275 hcl_8 kd_82 dX8_all_5 rfl rfl (Nat.le_of_ble_eq_true rfl) (Nat.le_of_ble_eq_true rfl) (by decide) (ct_X8_ridden hf (((((1 : Int32) <<< (μ 82 4 &&& 31)) - 1))) μ p1) (fun z3 μ4 r5 => ?_)
  have h6 := h2 z3 μ4 r5
  exact ev_ireturn dX8_all_8 rfl True.intro rfl rfl ⟨rfl, h6⟩
theorem ct_X8_all {G : GW} {α : Mem} (hf : WF α) (μ : Mem) (hp : VM α μ) : Ev2 G mX8_all 7 0 [(0, .ref 82)] [] μ (fun v μ' => ∃ x, v = some (.int x) ∧ (x = ridA α (allA α) ∧ onlyM 99 105 μ μ')) := by
  refine sg_X8_all_0 hf ?_
  rw [hp.all]
  exact ⟨⟨hp, allA_ok hf.1⟩, fun z ν hz => ⟨z, rfl, hz⟩⟩
theorem VM.o {α μ ν : Mem} (h : VM α μ) (hf : WF α) (ho : onlyM 99 105 μ ν) : VM α ν ∧ keepX μ ν := h.scr hf (scrK.only ho (by omega) (by omega))
theorem pb_X8_all {G : GW} {α μ : Mem} (hf : WF α) (h : VM α μ) : pubM G mX8_all 7 [(0, .ref 82)] α μ (.int (sp_all α)) α := by
  refine ev2_imp (ct_X8_all hf μ h) ?_
  rintro v μ' ⟨x, rfl, rfl, ho⟩
  exact ⟨rfl, h.o hf ho⟩
theorem sg_X8_worth_0 {G : GW} {K : Option Value → Mem → Prop} {μ : Mem} {α : Mem} (hf : WF α) {x1 : Int32}  (h : (((inB x1 0 (μ 82 4 - 1)) = false) → K (some (.int (-5))) μ) ∧ (((inB x1 0 (μ 82 4 - 1)) = true) → (VM α μ ∧ setOK (aN α) (((((1 : Int32) <<< (μ 82 4 &&& 31)) - 1)) &&& (((1 : Int32) <<< (x1 &&& 31)) ^^^ (-1)))) ∧ ∀ (z6 : Int32) (μ7 : Mem), (z6 = ridA α (((((1 : Int32) <<< (μ 82 4 &&& 31)) - 1)) &&& (((1 : Int32) <<< (x1 &&& 31)) ^^^ (-1))) ∧ onlyM 99 105 μ μ7) → (VM α μ7) ∧ ∀ (z12 : Int32) (μ13 : Mem), (z12 = ridA α (allA α) ∧ onlyM 99 105 μ7 μ13) → K (some (.int (z6 - z12))) μ13)) : Ev2 G mX8_worth 8 0 [(0, .ref 82), (1, .int x1)] [] μ K := by
  refine ev_aload_n dX8_worth_0 0 rfl (by decide) ?_
  refine ev_iload_n dX8_worth_1 1 rfl ?_
  refine e2_callV (w := .int (bi (inB x1 0 (μ 82 4 - 1)))) (μ1 := μ) (a := 82) (as := [.int x1]) (st := []) ok_X8_isHorse vi_X8_isHorse ml_8_57 hcl_8 kd_82 dX8_worth_2 rfl rfl (Nat.le_of_ble_eq_true rfl) (Nat.le_of_ble_eq_true rfl) (by decide) (ct_X8_isHorse (x1) μ) ?_
  refine ev_ifeq_bi (tgt := 30) dX8_worth_5 rfl (fun c1 => ?_) (fun c1 => ?_)
  · have h2 := h.1 c1
    refine ev_bipush (v := (-5)) dX8_worth_30 rfl ?_
    exact ev_ireturn dX8_worth_32 rfl True.intro rfl rfl ⟨rfl, h2⟩
  · have h3 := h.2 c1
    refine ev_aload_n dX8_worth_8 0 rfl (by decide) ?_
    refine ev_aload_n dX8_worth_9 0 rfl (by decide) ?_
    refine e2_callV (w := .int ((((1 : Int32) <<< (μ 82 4 &&& 31)) - 1))) (μ1 := μ) (a := 82) (as := []) (st := [.ref 82]) ok_X8_everyOne vi_X8_everyOne ml_8_262 hcl_8 kd_82 dX8_worth_10 rfl rfl (Nat.le_of_ble_eq_true rfl) (Nat.le_of_ble_eq_true rfl) (by decide) (ct_X8_everyOne μ) ?_
    refine ev_iconst (v := 1) dX8_worth_13 rfl ?_
    refine ev_iload_n dX8_worth_14 1 rfl ?_
    refine ev_ishl dX8_worth_15 ?_
    refine ev_iconst (v := (-1)) dX8_worth_16 rfl ?_
    refine ev_ixor dX8_worth_17 ?_
    refine ev_iand dX8_worth_18 ?_
    have p4 := h3.1
    have h5 := h3.2
    refine e2_callVr (Rl := fun z6 μ7 => z6 = ridA α (((((1 : Int32) <<< (μ 82 4 &&& 31)) - 1)) &&& (((1 : Int32) <<< (x1 &&& 31)) ^^^ (-1))) ∧ onlyM 99 105 μ μ7) (a := 82) (as := [.int (((((1 : Int32) <<< (μ 82 4 &&& 31)) - 1)) &&& (((1 : Int32) <<< (x1 &&& 31)) ^^^ (-1)))]) (st := []) ok_X8_ridden vi_X8_ridden ml_8_275 hcl_8 kd_82 dX8_worth_19 rfl rfl (Nat.le_of_ble_eq_true rfl) (Nat.le_of_ble_eq_true rfl) (by decide) (ct_X8_ridden hf ((((((1 : Int32) <<< (μ 82 4 &&& 31)) - 1)) &&& (((1 : Int32) <<< (x1 &&& 31)) ^^^ (-1)))) μ p4) (fun z6 μ7 r8 => ?_)
    have h9 := h5 z6 μ7 r8
    refine ev_aload_n dX8_worth_22 0 rfl (by decide) ?_
    have p10 := h9.1
    have h11 := h9.2
    refine e2_callVr (Rl := fun z12 μ13 => z12 = ridA α (allA α) ∧ onlyM 99 105 μ7 μ13) (a := 82) (as := []) (st := [.int z6]) ok_X8_all vi_X8_all ml_8_278 hcl_8 kd_82 dX8_worth_23 rfl rfl (Nat.le_of_ble_eq_true rfl) (Nat.le_of_ble_eq_true rfl) (by decide) (ct_X8_all hf μ7 p10) (fun z12 μ13 r14 => ?_)
    have h15 := h11 z12 μ13 r14
    refine ev_isub dX8_worth_26 ?_
    refine ev_goto (tgt := 32) dX8_worth_27 rfl ?_
    exact ev_ireturn dX8_worth_32 rfl True.intro rfl rfl ⟨rfl, h15⟩
theorem pb_X8_worth {G : GW} {α μ : Mem} (hf : WF α) (h : VM α μ) (x1 : Int32) : pubM G mX8_worth 8 [(0, .ref 82), (1, .int x1)] α μ (.int (sp_worth α x1)) α := by
  refine sg_X8_worth_0 hf ?_
  rw [h.all, h.1.1]
  unfold sp_worth
  refine ⟨fun c => ?_, fun c => ?_⟩
  · rw [if_neg (by rw [c]; decide)]
    exact ⟨rfl, h, keepX.rf μ⟩
  · rw [if_pos c]
    refine ⟨⟨h, setOK_and (allA_ok hf.1) _⟩, fun x ν hx => ?_⟩
    obtain ⟨h1, k1⟩ := h.o hf hx.2
    refine ⟨h1, fun y ξ hy => ?_⟩
    obtain ⟨h2, k2⟩ := h1.o hf hy.2
    exact ⟨by rw [hx.1, hy.1], h2, k1.tr k2⟩
