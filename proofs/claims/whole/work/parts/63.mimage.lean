/-! ===== the reference's public methods: image, back, copy, horsesBy, feed ===== -/
def mvL (a : Nat) : Nat := if a = 83 ∨ a = 107 then 49 else 8
def mvM (μ : Mem) (a b : Nat) : Mem := fun r k => if r = b ∧ k < mvL a then μ a k else μ r k
def mvP (a b : Nat) : Prop := (a = 83 ∧ b = 107) ∨ (a = 91 ∧ b = 108) ∨ (a = 107 ∧ b = 83) ∨ (a = 108 ∧ b = 91)
theorem sg_X8_move_w_0 {G : GW} {K : Option Value → Mem → Prop} {μ : Mem}   (h : Ev2 G mX8_move_ 1 2 [(0, .ref 83), (1, .ref 107), (2, .int 0)] [] μ K) : Ev2 G mX8_move_ 1 0 [(0, .ref 83), (1, .ref 107)] [] μ K := by
  refine ev_iconst (v := 0) dX8_move__0 rfl ?_
  refine ev_istore_n (lv' := [(0, .ref 83), (1, .ref 107), (2, .int 0)]) dX8_move__1 (by decide) [1, 2, 0] rfl ?_
  exact h
theorem sg_X8_move_w_2 {G : GW} {K : Option Value → Mem → Prop} {μ : Mem} {x2 : Int32}  (h : ((49 ≤ x2) → K none μ) ∧ ((¬ (49 ≤ x2)) → (vp_in x2 49) ∧ (vp_in x2 49) ∧ Ev2 G mX8_move_ 1 2 [(0, .ref 83), (1, .ref 107), (2, .int (x2 + 1))] [] (mset μ 107 x2.toNatClampNeg (μ 83 x2.toNatClampNeg)) K)) : Ev2 G mX8_move_ 1 2 [(0, .ref 83), (1, .ref 107), (2, .int x2)] [] μ K := by
  refine ev_iload_n dX8_move__2 2 rfl ?_
  refine ev_aload_n dX8_move__3 0 rfl (by decide) ?_
  refine ev_alen' (v := 49) (by rw [show S0.2.2.1 83 = _ from kd_83]; decide) ln_83 rfl dX8_move__4 ?_
  refine ev_icmp_ge (tgt := 20) dX8_move__5 rfl (fun c1 => ?_) (fun c1 => ?_)
  · have h2 := h.1 c1
    exact ev_return dX8_move__20 rfl rfl rfl ⟨rfl, h2⟩
  · have h3 := h.2 c1
    refine ev_aload_n dX8_move__8 1 rfl (by decide) ?_
    refine ev_iload_n dX8_move__9 2 rfl ?_
    refine ev_aload_n dX8_move__10 0 rfl (by decide) ?_
    refine ev_iload_n dX8_move__11 2 rfl ?_
    have p4 := h3.1
    have h5 := h3.2
    refine ev_iaload' (v := (μ 83 x2.toNatClampNeg)) kd_83 ln_83 p4 rfl dX8_move__12 ?_
    have p6 := h5.1
    have h7 := h5.2
    refine ev_iastore' (j := x2.toNatClampNeg) kd_107 ln_107 p6 rfl dX8_move__13 ?_
    refine ev_iinc (v := (x2 + 1)) (lv' := [(0, .ref 83), (1, .ref 107), (2, .int (x2 + 1))]) dX8_move__14 2 rfl rfl (by decide) [1, 2, 0] rfl ?_
    refine ev_goto (tgt := 2) dX8_move__17 rfl ?_
    exact h7
theorem sg_X8_move_r_0 {G : GW} {K : Option Value → Mem → Prop} {μ : Mem}   (h : Ev2 G mX8_move_ 1 2 [(0, .ref 91), (1, .ref 108), (2, .int 0)] [] μ K) : Ev2 G mX8_move_ 1 0 [(0, .ref 91), (1, .ref 108)] [] μ K := by
  refine ev_iconst (v := 0) dX8_move__0 rfl ?_
  refine ev_istore_n (lv' := [(0, .ref 91), (1, .ref 108), (2, .int 0)]) dX8_move__1 (by decide) [1, 2, 0] rfl ?_
  exact h
theorem sg_X8_move_r_2 {G : GW} {K : Option Value → Mem → Prop} {μ : Mem} {x2 : Int32}  (h : ((8 ≤ x2) → K none μ) ∧ ((¬ (8 ≤ x2)) → (vp_in x2 8) ∧ (vp_in x2 8) ∧ Ev2 G mX8_move_ 1 2 [(0, .ref 91), (1, .ref 108), (2, .int (x2 + 1))] [] (mset μ 108 x2.toNatClampNeg (μ 91 x2.toNatClampNeg)) K)) : Ev2 G mX8_move_ 1 2 [(0, .ref 91), (1, .ref 108), (2, .int x2)] [] μ K := by
  refine ev_iload_n dX8_move__2 2 rfl ?_
  refine ev_aload_n dX8_move__3 0 rfl (by decide) ?_
  refine ev_alen' (v := 8) (by rw [show S0.2.2.1 91 = _ from kd_91]; decide) ln_91 rfl dX8_move__4 ?_
  refine ev_icmp_ge (tgt := 20) dX8_move__5 rfl (fun c1 => ?_) (fun c1 => ?_)
  · have h2 := h.1 c1
    exact ev_return dX8_move__20 rfl rfl rfl ⟨rfl, h2⟩
  · have h3 := h.2 c1
    refine ev_aload_n dX8_move__8 1 rfl (by decide) ?_
    refine ev_iload_n dX8_move__9 2 rfl ?_
    refine ev_aload_n dX8_move__10 0 rfl (by decide) ?_
    refine ev_iload_n dX8_move__11 2 rfl ?_
    have p4 := h3.1
    have h5 := h3.2
    refine ev_iaload' (v := (μ 91 x2.toNatClampNeg)) kd_91 ln_91 p4 rfl dX8_move__12 ?_
    have p6 := h5.1
    have h7 := h5.2
    refine ev_iastore' (j := x2.toNatClampNeg) kd_108 ln_108 p6 rfl dX8_move__13 ?_
    refine ev_iinc (v := (x2 + 1)) (lv' := [(0, .ref 91), (1, .ref 108), (2, .int (x2 + 1))]) dX8_move__14 2 rfl rfl (by decide) [1, 2, 0] rfl ?_
    refine ev_goto (tgt := 2) dX8_move__17 rfl ?_
    exact h7
theorem sg_X8_move_v_0 {G : GW} {K : Option Value → Mem → Prop} {μ : Mem}   (h : Ev2 G mX8_move_ 1 2 [(0, .ref 107), (1, .ref 83), (2, .int 0)] [] μ K) : Ev2 G mX8_move_ 1 0 [(0, .ref 107), (1, .ref 83)] [] μ K := by
  refine ev_iconst (v := 0) dX8_move__0 rfl ?_
  refine ev_istore_n (lv' := [(0, .ref 107), (1, .ref 83), (2, .int 0)]) dX8_move__1 (by decide) [1, 2, 0] rfl ?_
  exact h
theorem sg_X8_move_v_2 {G : GW} {K : Option Value → Mem → Prop} {μ : Mem} {x2 : Int32}  (h : ((49 ≤ x2) → K none μ) ∧ ((¬ (49 ≤ x2)) → (vp_in x2 49) ∧ (vp_in x2 49) ∧ Ev2 G mX8_move_ 1 2 [(0, .ref 107), (1, .ref 83), (2, .int (x2 + 1))] [] (mset μ 83 x2.toNatClampNeg (μ 107 x2.toNatClampNeg)) K)) : Ev2 G mX8_move_ 1 2 [(0, .ref 107), (1, .ref 83), (2, .int x2)] [] μ K := by
  refine ev_iload_n dX8_move__2 2 rfl ?_
  refine ev_aload_n dX8_move__3 0 rfl (by decide) ?_
  refine ev_alen' (v := 49) (by rw [show S0.2.2.1 107 = _ from kd_107]; decide) ln_107 rfl dX8_move__4 ?_
  refine ev_icmp_ge (tgt := 20) dX8_move__5 rfl (fun c1 => ?_) (fun c1 => ?_)
  · have h2 := h.1 c1
    exact ev_return dX8_move__20 rfl rfl rfl ⟨rfl, h2⟩
  · have h3 := h.2 c1
    refine ev_aload_n dX8_move__8 1 rfl (by decide) ?_
    refine ev_iload_n dX8_move__9 2 rfl ?_
    refine ev_aload_n dX8_move__10 0 rfl (by decide) ?_
    refine ev_iload_n dX8_move__11 2 rfl ?_
    have p4 := h3.1
    have h5 := h3.2
    refine ev_iaload' (v := (μ 107 x2.toNatClampNeg)) kd_107 ln_107 p4 rfl dX8_move__12 ?_
    have p6 := h5.1
    have h7 := h5.2
    refine ev_iastore' (j := x2.toNatClampNeg) kd_83 ln_83 p6 rfl dX8_move__13 ?_
    refine ev_iinc (v := (x2 + 1)) (lv' := [(0, .ref 107), (1, .ref 83), (2, .int (x2 + 1))]) dX8_move__14 2 rfl rfl (by decide) [1, 2, 0] rfl ?_
    refine ev_goto (tgt := 2) dX8_move__17 rfl ?_
    exact h7
theorem sg_X8_move_s_0 {G : GW} {K : Option Value → Mem → Prop} {μ : Mem}   (h : Ev2 G mX8_move_ 1 2 [(0, .ref 108), (1, .ref 91), (2, .int 0)] [] μ K) : Ev2 G mX8_move_ 1 0 [(0, .ref 108), (1, .ref 91)] [] μ K := by
  refine ev_iconst (v := 0) dX8_move__0 rfl ?_
  refine ev_istore_n (lv' := [(0, .ref 108), (1, .ref 91), (2, .int 0)]) dX8_move__1 (by decide) [1, 2, 0] rfl ?_
  exact h
theorem sg_X8_move_s_2 {G : GW} {K : Option Value → Mem → Prop} {μ : Mem} {x2 : Int32}  (h : ((8 ≤ x2) → K none μ) ∧ ((¬ (8 ≤ x2)) → (vp_in x2 8) ∧ (vp_in x2 8) ∧ Ev2 G mX8_move_ 1 2 [(0, .ref 108), (1, .ref 91), (2, .int (x2 + 1))] [] (mset μ 91 x2.toNatClampNeg (μ 108 x2.toNatClampNeg)) K)) : Ev2 G mX8_move_ 1 2 [(0, .ref 108), (1, .ref 91), (2, .int x2)] [] μ K := by
  refine ev_iload_n dX8_move__2 2 rfl ?_
  refine ev_aload_n dX8_move__3 0 rfl (by decide) ?_
  refine ev_alen' (v := 8) (by rw [show S0.2.2.1 108 = _ from kd_108]; decide) ln_108 rfl dX8_move__4 ?_
  refine ev_icmp_ge (tgt := 20) dX8_move__5 rfl (fun c1 => ?_) (fun c1 => ?_)
  · have h2 := h.1 c1
    exact ev_return dX8_move__20 rfl rfl rfl ⟨rfl, h2⟩
  · have h3 := h.2 c1
    refine ev_aload_n dX8_move__8 1 rfl (by decide) ?_
    refine ev_iload_n dX8_move__9 2 rfl ?_
    refine ev_aload_n dX8_move__10 0 rfl (by decide) ?_
    refine ev_iload_n dX8_move__11 2 rfl ?_
    have p4 := h3.1
    have h5 := h3.2
    refine ev_iaload' (v := (μ 108 x2.toNatClampNeg)) kd_108 ln_108 p4 rfl dX8_move__12 ?_
    have p6 := h5.1
    have h7 := h5.2
    refine ev_iastore' (j := x2.toNatClampNeg) kd_91 ln_91 p6 rfl dX8_move__13 ?_
    refine ev_iinc (v := (x2 + 1)) (lv' := [(0, .ref 108), (1, .ref 91), (2, .int (x2 + 1))]) dX8_move__14 2 rfl rfl (by decide) [1, 2, 0] rfl ?_
    refine ev_goto (tgt := 2) dX8_move__17 rfl ?_
    exact h7
theorem lp_X8_move_w {G : GW} {μ : Mem} : ∀ j i (ν : Mem), i + j = 49 → (∀ r, r ≠ 107 → ν r = μ r) → (∀ k, ν 107 k = if k < i then μ 83 k else μ 107 k) → Ev2 G mX8_move_ 1 2 [(0, .ref 83), (1, .ref 107), (2, .int (nI i))] [] ν (fun v μ' => v = none ∧ μ' = mvM μ 83 107) := by
  intro j
  induction j with
  | zero =>
    intro i ν hi h1 h2
    obtain rfl : i = 49 := hi
    refine sg_X8_move_w_2 ⟨fun _ => ⟨rfl, ?_⟩, fun c => absurd (nI_le (a := 49) (Nat.le_refl _) (by omega)) c⟩
    funext r k
    unfold mvM
    have e : mvL 83 = 49 := rfl
    rw [e]
    by_cases c : r = 107
    · subst c
      rw [h2]
      by_cases d : k < 49
      · rw [if_pos d, if_pos ⟨rfl, d⟩]
      · rw [if_neg d, if_neg (fun q => d q.2)]
    · rw [h1 r c, if_neg (fun q => c q.1)]
  | succ j ih =>
    intro i ν hi h1 h2
    have hv : vp_in (nI i) 49 := vp_nI (by omega) (by omega)
    refine sg_X8_move_w_2 ⟨fun c => absurd c (nI_ge (b := 49) (by omega) (by omega)), fun _ => ⟨hv, hv, ?_⟩⟩
    rw [ix_nI (by omega), h1 83 (by omega), nI_1]
    refine ih (i + 1) _ (by omega) (fun r hr => by rw [mset_ne hr]; exact h1 r hr) (fun k => ?_)
    by_cases c : k = i
    · rw [c, mset_same, if_pos (by omega)]
    · rw [mset_other (by omega), h2]
      by_cases d : k < i
      · rw [if_pos d, if_pos (by omega)]
      · rw [if_neg d, if_neg (by omega)]
theorem lp_X8_move_r {G : GW} {μ : Mem} : ∀ j i (ν : Mem), i + j = 8 → (∀ r, r ≠ 108 → ν r = μ r) → (∀ k, ν 108 k = if k < i then μ 91 k else μ 108 k) → Ev2 G mX8_move_ 1 2 [(0, .ref 91), (1, .ref 108), (2, .int (nI i))] [] ν (fun v μ' => v = none ∧ μ' = mvM μ 91 108) := by
  intro j
  induction j with
  | zero =>
    intro i ν hi h1 h2
    obtain rfl : i = 8 := hi
    refine sg_X8_move_r_2 ⟨fun _ => ⟨rfl, ?_⟩, fun c => absurd (nI_le (a := 8) (Nat.le_refl _) (by omega)) c⟩
    funext r k
    unfold mvM
    have e : mvL 91 = 8 := rfl
    rw [e]
    by_cases c : r = 108
    · subst c
      rw [h2]
      by_cases d : k < 8
      · rw [if_pos d, if_pos ⟨rfl, d⟩]
      · rw [if_neg d, if_neg (fun q => d q.2)]
    · rw [h1 r c, if_neg (fun q => c q.1)]
  | succ j ih =>
    intro i ν hi h1 h2
    have hv : vp_in (nI i) 8 := vp_nI (by omega) (by omega)
    refine sg_X8_move_r_2 ⟨fun c => absurd c (nI_ge (b := 8) (by omega) (by omega)), fun _ => ⟨hv, hv, ?_⟩⟩
    rw [ix_nI (by omega), h1 91 (by omega), nI_1]
    refine ih (i + 1) _ (by omega) (fun r hr => by rw [mset_ne hr]; exact h1 r hr) (fun k => ?_)
    by_cases c : k = i
    · rw [c, mset_same, if_pos (by omega)]
    · rw [mset_other (by omega), h2]
      by_cases d : k < i
      · rw [if_pos d, if_pos (by omega)]
      · rw [if_neg d, if_neg (by omega)]
theorem lp_X8_move_v {G : GW} {μ : Mem} : ∀ j i (ν : Mem), i + j = 49 → (∀ r, r ≠ 83 → ν r = μ r) → (∀ k, ν 83 k = if k < i then μ 107 k else μ 83 k) → Ev2 G mX8_move_ 1 2 [(0, .ref 107), (1, .ref 83), (2, .int (nI i))] [] ν (fun v μ' => v = none ∧ μ' = mvM μ 107 83) := by
  intro j
  induction j with
  | zero =>
    intro i ν hi h1 h2
    obtain rfl : i = 49 := hi
    refine sg_X8_move_v_2 ⟨fun _ => ⟨rfl, ?_⟩, fun c => absurd (nI_le (a := 49) (Nat.le_refl _) (by omega)) c⟩
    funext r k
    unfold mvM
    have e : mvL 107 = 49 := rfl
    rw [e]
    by_cases c : r = 83
    · subst c
      rw [h2]
      by_cases d : k < 49
      · rw [if_pos d, if_pos ⟨rfl, d⟩]
      · rw [if_neg d, if_neg (fun q => d q.2)]
    · rw [h1 r c, if_neg (fun q => c q.1)]
  | succ j ih =>
    intro i ν hi h1 h2
    have hv : vp_in (nI i) 49 := vp_nI (by omega) (by omega)
    refine sg_X8_move_v_2 ⟨fun c => absurd c (nI_ge (b := 49) (by omega) (by omega)), fun _ => ⟨hv, hv, ?_⟩⟩
    rw [ix_nI (by omega), h1 107 (by omega), nI_1]
    refine ih (i + 1) _ (by omega) (fun r hr => by rw [mset_ne hr]; exact h1 r hr) (fun k => ?_)
    by_cases c : k = i
    · rw [c, mset_same, if_pos (by omega)]
    · rw [mset_other (by omega), h2]
      by_cases d : k < i
      · rw [if_pos d, if_pos (by omega)]
      · rw [if_neg d, if_neg (by omega)]
theorem lp_X8_move_s {G : GW} {μ : Mem} : ∀ j i (ν : Mem), i + j = 8 → (∀ r, r ≠ 91 → ν r = μ r) → (∀ k, ν 91 k = if k < i then μ 108 k else μ 91 k) → Ev2 G mX8_move_ 1 2 [(0, .ref 108), (1, .ref 91), (2, .int (nI i))] [] ν (fun v μ' => v = none ∧ μ' = mvM μ 108 91) := by
  intro j
  induction j with
  | zero =>
    intro i ν hi h1 h2
    obtain rfl : i = 8 := hi
    refine sg_X8_move_s_2 ⟨fun _ => ⟨rfl, ?_⟩, fun c => absurd (nI_le (a := 8) (Nat.le_refl _) (by omega)) c⟩
    funext r k
    unfold mvM
    have e : mvL 108 = 8 := rfl
    rw [e]
    by_cases c : r = 91
    · subst c
      rw [h2]
      by_cases d : k < 8
      · rw [if_pos d, if_pos ⟨rfl, d⟩]
      · rw [if_neg d, if_neg (fun q => d q.2)]
    · rw [h1 r c, if_neg (fun q => c q.1)]
  | succ j ih =>
    intro i ν hi h1 h2
    have hv : vp_in (nI i) 8 := vp_nI (by omega) (by omega)
    refine sg_X8_move_s_2 ⟨fun c => absurd c (nI_ge (b := 8) (by omega) (by omega)), fun _ => ⟨hv, hv, ?_⟩⟩
    rw [ix_nI (by omega), h1 108 (by omega), nI_1]
    refine ih (i + 1) _ (by omega) (fun r hr => by rw [mset_ne hr]; exact h1 r hr) (fun k => ?_)
    by_cases c : k = i
    · rw [c, mset_same, if_pos (by omega)]
    · rw [mset_other (by omega), h2]
      by_cases d : k < i
      · rw [if_pos d, if_pos (by omega)]
      · rw [if_neg d, if_neg (by omega)]
theorem ct_X8_move_ {G : GW} (a : Nat) (_ : True) (b : Nat) (_ : True) (μ : Mem) (hp : mvP a b) : Ev2 G mX8_move_ 1 0 [(0, .ref a), (1, .ref b)] [] μ (fun v μ' => v = none ∧ μ' = mvM μ a b) := by
  have z : ∀ b k, μ b k = if k < 0 then μ a k else μ b k := fun b k => by rw [if_neg (Nat.not_lt_zero k)]
  rcases hp with ⟨rfl, rfl⟩ | ⟨rfl, rfl⟩ | ⟨rfl, rfl⟩ | ⟨rfl, rfl⟩
  · exact sg_X8_move_w_0 (lp_X8_move_w 49 0 μ rfl (fun _ _ => rfl) (z 107))
  · exact sg_X8_move_r_0 (lp_X8_move_r 8 0 μ rfl (fun _ _ => rfl) (z 108))
  · exact sg_X8_move_v_0 (lp_X8_move_v 49 0 μ rfl (fun _ _ => rfl) (z 83))
  · exact sg_X8_move_s_0 (lp_X8_move_s 8 0 μ rfl (fun _ _ => rfl) (z 91))
theorem mvM_ne {μ : Mem} {a b r k : Nat} (h : r ≠ b ∨ mvL a ≤ k) : mvM μ a b r k = μ r k := if_neg (fun q => h.elim (fun z => z q.1) (fun z => by omega))
theorem mvM_row {μ : Mem} {a b r : Nat} (h : r ≠ b) : mvM μ a b r = μ r := funext fun k => mvM_ne (Or.inl h)
theorem mvM_at {μ : Mem} {a b k : Nat} (h : k < mvL a) : mvM μ a b b k = μ a k := if_pos ⟨rfl, h⟩
theorem sg_X8_image_0 {G : GW} {K : Option Value → Mem → Prop} {μ : Mem}   (h : (mvP 83 107) ∧ (mvP 91 108) ∧ K (some (.int ((mvM (mvM (mset μ 82 39 1) 83 107) 91 108) 82 4))) (mset (mset (mset (mvM (mvM (mset μ 82 39 1) 83 107) 91 108) 82 42 ((mvM (mvM (mset μ 82 39 1) 83 107) 91 108) 82 4)) 82 43 ((mvM (mvM (mset μ 82 39 1) 83 107) 91 108) 82 1)) 82 44 ((mvM (mvM (mset μ 82 39 1) 83 107) 91 108) 82 14))) : Ev2 G mX8_image 2 0 [(0, .ref 82)] [] μ K := by
  refine ev_aload_n dX8_image_0 0 rfl (by decide) ?_
  refine ev_iconst (v := 1) dX8_image_1 rfl ?_
  refine ev_putI fl_8_310 ⟨rfl, rfl, rfl⟩ (fun r hr => by cases hr; rfl) kd_82 dX8_image_2 ?_
  refine ev_aload_n dX8_image_5 0 rfl (by decide) ?_
  refine ev_getR' fl_8_14 rfl kd_82 rf_82_0 dX8_image_6 ?_
  refine ev_aload_n dX8_image_9 0 rfl (by decide) ?_
  refine ev_getR' fl_8_219 rfl kd_82 rf_82_40 dX8_image_10 ?_
  have p1 := h.1
  have h2 := h.2
  refine e2_callSv (μ1 := (mvM (mset μ 82 39 1) 83 107)) (as := [.ref 83, .ref 107]) (st := []) ok_X8_move_ sv_X8_move_ ml_8_314 dX8_image_13 rfl rfl (Nat.le_of_ble_eq_true rfl) (Nat.le_of_ble_eq_true rfl) (by decide) (ct_X8_move_ 83 True.intro 107 True.intro (mset μ 82 39 1) p1) ?_
  refine ev_aload_n dX8_image_16 0 rfl (by decide) ?_
  refine ev_getR' fl_8_50 rfl kd_82 rf_82_10 dX8_image_17 ?_
  refine ev_aload_n dX8_image_20 0 rfl (by decide) ?_
  refine ev_getR' fl_8_222 rfl kd_82 rf_82_41 dX8_image_21 ?_
  have p3 := h2.1
  have h4 := h2.2
  refine e2_callSv (μ1 := (mvM (mvM (mset μ 82 39 1) 83 107) 91 108)) (as := [.ref 91, .ref 108]) (st := []) ok_X8_move_ sv_X8_move_ ml_8_314 dX8_image_24 rfl rfl (Nat.le_of_ble_eq_true rfl) (Nat.le_of_ble_eq_true rfl) (by decide) (ct_X8_move_ 91 True.intro 108 True.intro (mvM (mset μ 82 39 1) 83 107) p3) ?_
  refine ev_aload_n dX8_image_27 0 rfl (by decide) ?_
  refine ev_aload_n dX8_image_28 0 rfl (by decide) ?_
  refine ev_getI' (v := ((mvM (mvM (mset μ 82 39 1) 83 107) 91 108) 82 4)) fl_8_7 rfl kd_82 rfl dX8_image_29 ?_
  refine ev_putI fl_8_318 ⟨rfl, rfl, rfl⟩ (fun r hr => by cases hr; rfl) kd_82 dX8_image_32 ?_
  refine ev_aload_n dX8_image_35 0 rfl (by decide) ?_
  refine ev_aload_n dX8_image_36 0 rfl (by decide) ?_
  refine ev_getI' (v := ((mvM (mvM (mset μ 82 39 1) 83 107) 91 108) 82 1)) fl_8_11 rfl kd_82 rfl dX8_image_37 ?_
  refine ev_putI fl_8_321 ⟨rfl, rfl, rfl⟩ (fun r hr => by cases hr; rfl) kd_82 dX8_image_40 ?_
  refine ev_aload_n dX8_image_43 0 rfl (by decide) ?_
  refine ev_aload_n dX8_image_44 0 rfl (by decide) ?_
  refine ev_getI' (v := ((mvM (mvM (mset μ 82 39 1) 83 107) 91 108) 82 14)) fl_8_187 rfl kd_82 rfl dX8_image_45 ?_
  refine ev_putI fl_8_324 ⟨rfl, rfl, rfl⟩ (fun r hr => by cases hr; rfl) kd_82 dX8_image_48 ?_
  refine ev_aload_n dX8_image_51 0 rfl (by decide) ?_
  refine ev_getI' (v := ((mvM (mvM (mset μ 82 39 1) 83 107) 91 108) 82 4)) fl_8_7 rfl kd_82 rfl dX8_image_52 ?_
  exact ev_ireturn dX8_image_55 rfl True.intro rfl rfl ⟨rfl, h4⟩
theorem pb_X8_image {G : GW} {α μ : Mem} (hf : WF α) (h : VM α μ) : pubM G mX8_image 2 [(0, .ref 82)] α μ (.int (α 0 0)) (imA α) := by
  have hn7 := hf.1.1.2
  obtain ⟨vc, vw, vr, vh, vt, vx, vi, vs, vk⟩ := h
  refine sg_X8_image_0 ⟨Or.inl ⟨rfl, rfl⟩, Or.inr (Or.inl ⟨rfl, rfl⟩), ?_⟩
  have m82 : ∀ k, k ≠ 39 → mvM (mvM (mset μ 82 39 1) 83 107) 91 108 82 k = μ 82 k := fun k hk => by
    rw [mvM_row (by omega), mvM_row (by omega), mset_other (by omega)]
  rw [m82 4 (by omega), m82 1 (by omega), m82 14 (by omega)]
  generalize hν : mset (mset (mset (mvM (mvM (mset μ 82 39 1) 83 107) 91 108) 82 42 (μ 82 4)) 82 43 (μ 82 1)) 82 44 (μ 82 14) = ν
  have e : ∀ r, (r < 11 ∨ 13 < r) → imA α r = α r := fun r h => imA_row h
  have e0 : ∀ k, k < 100 → imA α 0 k = α 0 k := fun k _ => by rw [e 0 (by omega)]
  have n : ∀ r, (r ≠ 82 ∧ r ≠ 107 ∧ r ≠ 108) → ν r = μ r := fun r h => by
    rw [← hν, mset_ne h.1, mset_ne h.1, mset_ne h.1, mvM_row h.2.2, mvM_row h.2.1, mset_ne h.1]
  have n0 : ∀ k, (k < 39 ∨ 44 < k) → ν 82 k = μ 82 k := fun k h => by
    rw [← hν, mset_other (by omega), mset_other (by omega), mset_other (by omega), mvM_row (by omega), mvM_row (by omega), mset_other (by omega)]
  obtain ⟨i0, i1, i2, i3, i4, i5⟩ := imA_at α
  refine ⟨by rw [vc.1], ⟨?_, ?_, ?_, ?_, ?_, ?_, ?_, ?_, ?_⟩, fun a ha => n a (by omega)⟩
  · exact vc.eq (fun k _ => e0 k (by omega)) (fun k _ => n0 k (by omega))
  · exact vw.eq (e 1 (by omega)) (n 83 (by omega))
  · exact vr.eq (e0 1 (by omega)) (e 2 (by omega)) (e 3 (by omega)) (n 84 (by omega)) (n 85 (by omega))
  · exact vh.eq (e0 0 (by omega)) (fun f _ => e (4 + f) (by omega)) (fun f _ => n (86 + f) (by omega))
  · exact vt.eq (e0 4 (by omega)) (e 10 (by omega)) (n 92 (by omega))
  · exact vx.eq (e0 2 (by omega)) (e 17 (by omega)) (e 18 (by omega)) (n 93 (by omega)) (n 94 (by omega))
  · unfold vMi
    rw [i0, i1, i2, i3, i4, i5]
    refine ⟨?_, fun _ => ⟨⟨?_, ?_, ?_⟩, fun k hk => ?_, fun h hh => ?_⟩⟩
    · rw [← hν, mset_other (by omega), mset_other (by omega), mset_other (by omega), mvM_row (by omega), mvM_row (by omega), mset_same]
    · rw [← hν, mset_other (by omega), mset_other (by omega), mset_same]; exact vc.1
    · rw [← hν, mset_other (by omega), mset_same]; exact vc.2.1
    · rw [← hν, mset_same]; exact vc.2.2.2.1
    · rw [← hν, mset_ne (by omega), mset_ne (by omega), mset_ne (by omega), mvM_row (by omega), mvM_at hk, mset_ne (by omega)]
      exact vw k hk
    · have hh' : h < aN α := hh
      rw [← hν, mset_ne (by omega), mset_ne (by omega), mset_ne (by omega), mvM_at (show h < 8 by omega), mvM_row (by omega), mset_ne (by omega)]
      exact vh h hh' 5 (by omega)
  · exact vs.eq (e 14 (by omega)) (e 15 (by omega)) (e 16 (by omega)) (n 109 (by omega)) (n 110 (by omega)) (n 111 (by omega))
  · exact vk.eq (n 95 (by omega)) (n 96 (by omega))
theorem sg_X8_back_0 {G : GW} {K : Option Value → Mem → Prop} {μ : Mem}   (h : ((¬ (μ 82 39) = 0) → (mvP 107 83) ∧ (mvP 108 91) ∧ K (some (.int ((mvM (mvM μ 107 83) 108 91) 82 42))) (mset (mset (mset (mvM (mvM μ 107 83) 108 91) 82 4 ((mvM (mvM μ 107 83) 108 91) 82 42)) 82 1 ((mvM (mvM μ 107 83) 108 91) 82 43)) 82 14 ((mvM (mvM μ 107 83) 108 91) 82 44))) ∧ (((μ 82 39) = 0) → K (some (.int (-3))) μ)) : Ev2 G mX8_back 2 0 [(0, .ref 82)] [] μ K := by
  refine ev_aload_n dX8_back_0 0 rfl (by decide) ?_
  refine ev_getI' (v := (μ 82 39)) fl_8_310 rfl kd_82 rfl dX8_back_1 ?_
  refine ev_if_ne (tgt := 10) dX8_back_4 rfl (fun c1 => ?_) (fun c1 => ?_)
  · have h2 := h.1 c1
    refine ev_aload_n dX8_back_10 0 rfl (by decide) ?_
    refine ev_getR' fl_8_219 rfl kd_82 rf_82_40 dX8_back_11 ?_
    refine ev_aload_n dX8_back_14 0 rfl (by decide) ?_
    refine ev_getR' fl_8_14 rfl kd_82 rf_82_0 dX8_back_15 ?_
    have p4 := h2.1
    have h5 := h2.2
    refine e2_callSv (μ1 := (mvM μ 107 83)) (as := [.ref 107, .ref 83]) (st := []) ok_X8_move_ sv_X8_move_ ml_8_314 dX8_back_18 rfl rfl (Nat.le_of_ble_eq_true rfl) (Nat.le_of_ble_eq_true rfl) (by decide) (ct_X8_move_ 107 True.intro 83 True.intro μ p4) ?_
    refine ev_aload_n dX8_back_21 0 rfl (by decide) ?_
    refine ev_getR' fl_8_222 rfl kd_82 rf_82_41 dX8_back_22 ?_
    refine ev_aload_n dX8_back_25 0 rfl (by decide) ?_
    refine ev_getR' fl_8_50 rfl kd_82 rf_82_10 dX8_back_26 ?_
    have p6 := h5.1
    have h7 := h5.2
    refine e2_callSv (μ1 := (mvM (mvM μ 107 83) 108 91)) (as := [.ref 108, .ref 91]) (st := []) ok_X8_move_ sv_X8_move_ ml_8_314 dX8_back_29 rfl rfl (Nat.le_of_ble_eq_true rfl) (Nat.le_of_ble_eq_true rfl) (by decide) (ct_X8_move_ 108 True.intro 91 True.intro (mvM μ 107 83) p6) ?_
    refine ev_aload_n dX8_back_32 0 rfl (by decide) ?_
    refine ev_aload_n dX8_back_33 0 rfl (by decide) ?_
    refine ev_getI' (v := ((mvM (mvM μ 107 83) 108 91) 82 42)) fl_8_318 rfl kd_82 rfl dX8_back_34 ?_
    refine ev_putI fl_8_7 ⟨rfl, rfl, rfl⟩ (fun r hr => by cases hr; rfl) kd_82 dX8_back_37 ?_
    refine ev_aload_n dX8_back_40 0 rfl (by decide) ?_
    refine ev_aload_n dX8_back_41 0 rfl (by decide) ?_
    refine ev_getI' (v := ((mvM (mvM μ 107 83) 108 91) 82 43)) fl_8_321 rfl kd_82 rfl dX8_back_42 ?_
    refine ev_putI fl_8_11 ⟨rfl, rfl, rfl⟩ (fun r hr => by cases hr; rfl) kd_82 dX8_back_45 ?_
    refine ev_aload_n dX8_back_48 0 rfl (by decide) ?_
    refine ev_aload_n dX8_back_49 0 rfl (by decide) ?_
    refine ev_getI' (v := ((mvM (mvM μ 107 83) 108 91) 82 44)) fl_8_324 rfl kd_82 rfl dX8_back_50 ?_
    refine ev_putI fl_8_187 ⟨rfl, rfl, rfl⟩ (fun r hr => by cases hr; rfl) kd_82 dX8_back_53 ?_
    refine ev_aload_n dX8_back_56 0 rfl (by decide) ?_
    refine ev_getI' (v := ((mvM (mvM μ 107 83) 108 91) 82 42)) fl_8_7 rfl kd_82 rfl dX8_back_57 ?_
    exact ev_ireturn dX8_back_60 rfl True.intro rfl rfl ⟨rfl, h7⟩
  · have h3 := h.2 c1
    refine ev_bipush (v := (-3)) dX8_back_7 rfl ?_
    exact ev_ireturn dX8_back_9 rfl True.intro rfl rfl ⟨rfl, h3⟩
theorem pb_X8_back {G : GW} {α μ : Mem} (hf : WF α) (h : VM α μ) : pubM G mX8_back 2 [(0, .ref 82)] α μ (.int (sp_back α)) (sq_back α) := by
  have hn7 := hf.1.1.2
  have c39 : μ 82 39 = α 11 0 := h.2.2.2.2.2.2.1.1
  unfold sp_back sq_back
  refine sg_X8_back_0 ?_
  rw [c39]
  refine ⟨fun c => ⟨Or.inr (Or.inr (Or.inl ⟨rfl, rfl⟩)), Or.inr (Or.inr (Or.inr ⟨rfl, rfl⟩)), ?_⟩, fun c => ?_⟩
  · rw [if_neg c, if_neg c]
    obtain ⟨c1, ⟨N, hN, eN, -⟩, ⟨R, hR, eR⟩, ⟨L, hL, eL⟩, -⟩ := img_in hf c
    obtain ⟨vc, vw, vr, vh, vt, vx, vi, vs, vk⟩ := h
    obtain ⟨⟨j1, j2, j3⟩, j4, j5⟩ := vi.2 c1
    have m82 : ∀ k, mvM (mvM μ 107 83) 108 91 82 k = μ 82 k := fun k => by rw [mvM_row (by omega), mvM_row (by omega)]
    rw [m82 42, m82 43, m82 44]
    generalize hν : mset (mset (mset (mvM (mvM μ 107 83) 108 91) 82 4 (μ 82 42)) 82 1 (μ 82 43)) 82 14 (μ 82 44) = ν
    have e : ∀ r, (r ≠ 0 ∧ r ≠ 1 ∧ r ≠ 9) → baA α r = α r := fun r h => baA_row h
    have n : ∀ r, (r ≠ 82 ∧ r ≠ 83 ∧ r ≠ 91) → ν r = μ r := fun r h => by
      rw [← hν, mset_ne h.1, mset_ne h.1, mset_ne h.1, mvM_row h.2.2, mvM_row h.2.1]
    have n0 : ∀ k, (k ≠ 4 ∧ k ≠ 1 ∧ k ≠ 14) → ν 82 k = μ 82 k := fun k h => by
      rw [← hν, mset_other (by omega), mset_other (by omega), mset_other (by omega), m82]
    obtain ⟨i0, i1, i2, i3, i4, i5, i6⟩ := baA_at α
    have gN : aN (baA α) = N := by unfold aN; rw [i0, eN, ix_nI (by omega)]
    have hR4 := hf.1.2.1.2
    have gR : aR (baA α) = R := by unfold aR; rw [i1, eR, ix_nI (by omega)]
    refine ⟨by rw [j1], ⟨⟨?_, ?_, ?_, ?_, ?_⟩, ?_, ?_, ?_, ?_, ?_, ?_, ?_, ?_⟩, fun a ha => n a (by omega)⟩
    · rw [← hν, mset_other (by omega), mset_other (by omega), mset_same, i0]; exact j1
    · rw [← hν, mset_other (by omega), mset_same, i1]; exact j2
    · rw [n0 13 (by omega), i2]; exact vc.2.2.1
    · rw [← hν, mset_same, i3]; exact j3
    · rw [n0 12 (by omega), i4]; exact vc.2.2.2.2
    · intro k hk
      rw [i5, ← hν, mset_ne (by omega), mset_ne (by omega), mset_ne (by omega), mvM_row (by omega), mvM_at hk]
      exact j4 k hk
    · intro i hi
      rw [gR] at hi
      rw [n 84 (by omega), n 85 (by omega), e 2 (by omega), e 3 (by omega)]
      exact vr i (by omega)
    · intro i hi f hf6
      rw [gN] at hi
      by_cases cf : f = 5
      · subst cf
        show ν 91 i = baA α 9 i
        rw [i6, ← hν, mset_ne (by omega), mset_ne (by omega), mset_ne (by omega), mvM_at (show i < 8 by omega), mvM_row (by omega)]
        exact j5 i (by rw [eN, ix_nI (by omega)]; exact hi)
      · rw [n (86 + f) (by omega), e (4 + f) (by omega)]
        exact vh i (by omega) f hf6
    · exact vt.eq i4 (e 10 (by omega)) (n 92 (by omega))
    · exact vx.eq i2 (e 17 (by omega)) (e 18 (by omega)) (n 93 (by omega)) (n 94 (by omega))
    · exact vi.eq (e 11 (by omega)) (e 12 (by omega)) (e 13 (by omega)) (fun k hk => n0 k (by omega)) (n 107 (by omega)) (n 108 (by omega))
    · exact vs.eq (e 14 (by omega)) (e 15 (by omega)) (e 16 (by omega)) (n 109 (by omega)) (n 110 (by omega)) (n 111 (by omega))
    · exact vk.eq (n 95 (by omega)) (n 96 (by omega))
  · rw [if_pos c, if_pos c]
    exact ⟨rfl, h, keepX.rf μ⟩
/-! copy -/
theorem holdsB_iff {z : Nat} (hz : z ≤ 40) (i n : Int32) : holdsB (nI z) i n = true ↔ (¬ n < 0 ∧ ¬ i < 0 ∧ ¬ nI z - i < n) := by
  have e0 : (0 : Int32).toInt = 0 := by decide
  have hi := Int32.toInt_lt i
  have hi2 := Int32.le_toInt i
  have hn := Int32.toInt_lt n
  have hn2 := Int32.le_toInt n
  simp only [holdsB, Bool.and_eq_true, decide_eq_true_eq]
  rw [i_le, i_le, i_le, i_le, i_lt, i_lt, i_lt, e0, nI_toInt (by omega)]
  by_cases c1 : i.toInt < 0
  · exact ⟨fun q => absurd q.1 (by omega), fun q => absurd c1 q.2.1⟩
  · by_cases c2 : n.toInt < 0
    · exact ⟨fun q => absurd q.2.1 (by omega), fun q => absurd c2 q.1⟩
    · have s1 : (nI z - i).toInt = z - i.toInt := by
        rw [i_sub (by rw [nI_toInt (by omega)]; omega), nI_toInt (by omega)]
      have s2 : (nI z - n).toInt = z - n.toInt := by
        rw [i_sub (by rw [nI_toInt (by omega)]; omega), nI_toInt (by omega)]
      rw [s1, s2]
      omega
theorem sg_X8_copy_0 {G : GW} {K : Option Value → Mem → Prop} {μ : Mem} {x1 x2 x3 x4 x5 : Int32}  (h : (((inB x1 0 3) = false) → K (some (.int (-2))) μ) ∧ (((inB x1 0 3) = true) → (((inB x3 0 3) = true) → (vp_in x1 4) ∧ (((μ 109 x1.toNatClampNeg) < 0) → K (some (.int (-11))) μ) ∧ ((¬ ((μ 109 x1.toNatClampNeg) < 0)) → (vp_in x3 4) ∧ ((0 ≤ (μ 109 x3.toNatClampNeg)) → (vp_in x1 4) ∧ (vp_in x3 4) ∧ (((μ 109 x1.toNatClampNeg) = (μ 109 x3.toNatClampNeg)) → ((x5 < 0) → K (some (.int (-12))) μ) ∧ ((¬ (x5 < 0)) → ((x2 < 0) → K (some (.int (-12))) μ) ∧ ((¬ (x2 < 0)) → ((x4 < 0) → K (some (.int (-12))) μ) ∧ ((¬ (x4 < 0)) → (vp_in x1 4) ∧ ((((μ 110 x1.toNatClampNeg) - x2) < x5) → K (some (.int (-12))) μ) ∧ ((¬ (((μ 110 x1.toNatClampNeg) - x2) < x5)) → (vp_in x3 4) ∧ ((x5 ≤ ((μ 110 x3.toNatClampNeg) - x4)) → Ev2 G mX8_copy 3 103 [(0, .ref 82), (1, .int x1), (2, .int x2), (3, .int x3), (4, .int x4), (5, .int x5), (6, .int 0)] [] μ K) ∧ ((¬ (x5 ≤ ((μ 110 x3.toNatClampNeg) - x4))) → K (some (.int (-12))) μ)))))) ∧ ((¬ ((μ 109 x1.toNatClampNeg) = (μ 109 x3.toNatClampNeg))) → K (some (.int (-13))) μ)) ∧ ((¬ (0 ≤ (μ 109 x3.toNatClampNeg))) → K (some (.int (-11))) μ))) ∧ (((inB x3 0 3) = false) → K (some (.int (-2))) μ))) : Ev2 G mX8_copy 3 0 [(0, .ref 82), (1, .int x1), (2, .int x2), (3, .int x3), (4, .int x4), (5, .int x5)] [] μ K := by
  refine ev_iload_n dX8_copy_0 1 rfl ?_
  refine e2_callS (w := .int (bi (inB x1 0 3))) (μ1 := μ) (as := [.int x1]) (st := []) ok_X8_isSheet sv_X8_isSheet ml_8_288 dX8_copy_1 rfl rfl (Nat.le_of_ble_eq_true rfl) (Nat.le_of_ble_eq_true rfl) (by decide) (ct_X8_isSheet (x1) μ) ?_
  refine ev_ifeq_bi (tgt := 14) dX8_copy_4 rfl (fun c1 => ?_) (fun c1 => ?_)
  · have h2 := h.1 c1
    refine ev_bipush (v := (-2)) dX8_copy_14 rfl ?_
    exact ev_ireturn dX8_copy_16 rfl True.intro rfl rfl ⟨rfl, h2⟩
  · have h3 := h.2 c1
    refine ev_iload_n dX8_copy_7 3 rfl ?_
    refine e2_callS (w := .int (bi (inB x3 0 3))) (μ1 := μ) (as := [.int x3]) (st := []) ok_X8_isSheet sv_X8_isSheet ml_8_288 dX8_copy_8 rfl rfl (Nat.le_of_ble_eq_true rfl) (Nat.le_of_ble_eq_true rfl) (by decide) (ct_X8_isSheet (x3) μ) ?_
    refine ev_ifne_bi (tgt := 17) dX8_copy_11 rfl (fun c4 => ?_) (fun c4 => ?_)
    · have h5 := h3.1 c4
      refine ev_aload_n dX8_copy_17 0 rfl (by decide) ?_
      refine ev_getR' fl_8_225 rfl kd_82 rf_82_45 dX8_copy_18 ?_
      refine ev_iload_n dX8_copy_21 1 rfl ?_
      have p7 := h5.1
      have h8 := h5.2
      refine ev_iaload' (v := (μ 109 x1.toNatClampNeg)) kd_109 ln_109 p7 rfl dX8_copy_22 ?_
      refine ev_if_lt (tgt := 35) dX8_copy_23 rfl (fun c9 => ?_) (fun c9 => ?_)
      · have h10 := h8.1 c9
        refine ev_bipush (v := (-11)) dX8_copy_35 rfl ?_
        exact ev_ireturn dX8_copy_37 rfl True.intro rfl rfl ⟨rfl, h10⟩
      · have h11 := h8.2 c9
        refine ev_aload_n dX8_copy_26 0 rfl (by decide) ?_
        refine ev_getR' fl_8_225 rfl kd_82 rf_82_45 dX8_copy_27 ?_
        refine ev_iload_n dX8_copy_30 3 rfl ?_
        have p12 := h11.1
        have h13 := h11.2
        refine ev_iaload' (v := (μ 109 x3.toNatClampNeg)) kd_109 ln_109 p12 rfl dX8_copy_31 ?_
        refine ev_if_ge (tgt := 38) dX8_copy_32 rfl (fun c14 => ?_) (fun c14 => ?_)
        · have h15 := h13.1 c14
          refine ev_aload_n dX8_copy_38 0 rfl (by decide) ?_
          refine ev_getR' fl_8_225 rfl kd_82 rf_82_45 dX8_copy_39 ?_
          refine ev_iload_n dX8_copy_42 1 rfl ?_
          have p17 := h15.1
          have h18 := h15.2
          refine ev_iaload' (v := (μ 109 x1.toNatClampNeg)) kd_109 ln_109 p17 rfl dX8_copy_43 ?_
          refine ev_aload_n dX8_copy_44 0 rfl (by decide) ?_
          refine ev_getR' fl_8_225 rfl kd_82 rf_82_45 dX8_copy_45 ?_
          refine ev_iload_n dX8_copy_48 3 rfl ?_
          have p19 := h18.1
          have h20 := h18.2
          refine ev_iaload' (v := (μ 109 x3.toNatClampNeg)) kd_109 ln_109 p19 rfl dX8_copy_49 ?_
          refine ev_icmp_eq (tgt := 56) dX8_copy_50 rfl (fun c21 => ?_) (fun c21 => ?_)
          · have h22 := h20.1 c21
            refine ev_iload dX8_copy_56 5 rfl ?_
            refine ev_if_lt (tgt := 97) dX8_copy_58 rfl (fun c24 => ?_) (fun c24 => ?_)
            · have h25 := h22.1 c24
              refine ev_bipush (v := (-12)) dX8_copy_97 rfl ?_
              exact ev_ireturn dX8_copy_99 rfl True.intro rfl rfl ⟨rfl, h25⟩
            · have h26 := h22.2 c24
              refine ev_iload_n dX8_copy_61 2 rfl ?_
              refine ev_if_lt (tgt := 97) dX8_copy_62 rfl (fun c27 => ?_) (fun c27 => ?_)
              · have h28 := h26.1 c27
                refine ev_bipush (v := (-12)) dX8_copy_97 rfl ?_
                exact ev_ireturn dX8_copy_99 rfl True.intro rfl rfl ⟨rfl, h28⟩
              · have h29 := h26.2 c27
                refine ev_iload dX8_copy_65 4 rfl ?_
                refine ev_if_lt (tgt := 97) dX8_copy_67 rfl (fun c30 => ?_) (fun c30 => ?_)
                · have h31 := h29.1 c30
                  refine ev_bipush (v := (-12)) dX8_copy_97 rfl ?_
                  exact ev_ireturn dX8_copy_99 rfl True.intro rfl rfl ⟨rfl, h31⟩
                · have h32 := h29.2 c30
                  refine ev_iload dX8_copy_70 5 rfl ?_
                  refine ev_aload_n dX8_copy_72 0 rfl (by decide) ?_
                  refine ev_getR' fl_8_228 rfl kd_82 rf_82_46 dX8_copy_73 ?_
                  refine ev_iload_n dX8_copy_76 1 rfl ?_
                  have p33 := h32.1
                  have h34 := h32.2
                  refine ev_iaload' (v := (μ 110 x1.toNatClampNeg)) kd_110 ln_110 p33 rfl dX8_copy_77 ?_
                  refine ev_iload_n dX8_copy_78 2 rfl ?_
                  refine ev_isub dX8_copy_79 ?_
                  refine ev_icmp_gt (tgt := 97) dX8_copy_80 rfl (fun c35 => ?_) (fun c35 => ?_)
                  · have h36 := h34.1 c35
                    refine ev_bipush (v := (-12)) dX8_copy_97 rfl ?_
                    exact ev_ireturn dX8_copy_99 rfl True.intro rfl rfl ⟨rfl, h36⟩
                  · have h37 := h34.2 c35
                    refine ev_iload dX8_copy_83 5 rfl ?_
                    refine ev_aload_n dX8_copy_85 0 rfl (by decide) ?_
                    refine ev_getR' fl_8_228 rfl kd_82 rf_82_46 dX8_copy_86 ?_
                    refine ev_iload_n dX8_copy_89 3 rfl ?_
                    have p38 := h37.1
                    have h39 := h37.2
                    refine ev_iaload' (v := (μ 110 x3.toNatClampNeg)) kd_110 ln_110 p38 rfl dX8_copy_90 ?_
                    refine ev_iload dX8_copy_91 4 rfl ?_
                    refine ev_isub dX8_copy_93 ?_
                    refine ev_icmp_le (tgt := 100) dX8_copy_94 rfl (fun c40 => ?_) (fun c40 => ?_)
                    · have h41 := h39.1 c40
                      refine ev_iconst (v := 0) dX8_copy_100 rfl ?_
                      refine ev_istore (lv' := [(0, .ref 82), (1, .int x1), (2, .int x2), (3, .int x3), (4, .int x4), (5, .int x5), (6, .int 0)]) dX8_copy_101 (by decide) [1, 2, 3, 4, 5, 6, 0] rfl ?_
                      exact h41
                    · have h42 := h39.2 c40
                      refine ev_bipush (v := (-12)) dX8_copy_97 rfl ?_
                      exact ev_ireturn dX8_copy_99 rfl True.intro rfl rfl ⟨rfl, h42⟩
          · have h23 := h20.2 c21
            refine ev_bipush (v := (-13)) dX8_copy_53 rfl ?_
            exact ev_ireturn dX8_copy_55 rfl True.intro rfl rfl ⟨rfl, h23⟩
        · have h16 := h13.2 c14
          refine ev_bipush (v := (-11)) dX8_copy_35 rfl ?_
          exact ev_ireturn dX8_copy_37 rfl True.intro rfl rfl ⟨rfl, h16⟩
    · have h6 := h3.2 c4
      refine ev_bipush (v := (-2)) dX8_copy_14 rfl ?_
      exact ev_ireturn dX8_copy_16 rfl True.intro rfl rfl ⟨rfl, h6⟩
theorem sg_X8_copy_103 {G : GW} {K : Option Value → Mem → Prop} {μ : Mem} {x1 x2 x3 x4 x5 x6 : Int32}  (h : ((x5 ≤ x6) → Ev2 G mX8_copy 3 140 [(0, .ref 82), (3, .int x3), (4, .int x4), (5, .int x5), (6, .int 0)] [] μ K) ∧ ((¬ (x5 ≤ x6)) → (vp_in (((40 * x1) + x2) + x6) 160) ∧ (vp_in x6 40) ∧ Ev2 G mX8_copy 3 103 [(0, .ref 82), (1, .int x1), (2, .int x2), (3, .int x3), (4, .int x4), (5, .int x5), (6, .int (x6 + 1))] [] (mset μ 112 x6.toNatClampNeg (μ 111 (((40 * x1) + x2) + x6).toNatClampNeg)) K)) : Ev2 G mX8_copy 3 103 [(0, .ref 82), (1, .int x1), (2, .int x2), (3, .int x3), (4, .int x4), (5, .int x5), (6, .int x6)] [] μ K := by
  refine ev_iload dX8_copy_103 6 rfl ?_
  refine ev_iload dX8_copy_105 5 rfl ?_
  refine ev_icmp_ge (tgt := 137) dX8_copy_107 rfl (fun c1 => ?_) (fun c1 => ?_)
  · have h2 := h.1 c1
    refine ev_iconst (v := 0) dX8_copy_137 rfl ?_
    refine ev_istore (lv' := [(0, .ref 82), (1, .int x1), (2, .int x2), (3, .int x3), (4, .int x4), (5, .int x5), (6, .int 0)]) dX8_copy_138 (by decide) [1, 2, 3, 4, 5, 6, 0] rfl ?_
    refine EvW.less [0, 3, 4, 5, 6] (lv' := [(0, .ref 82), (3, .int x3), (4, .int x4), (5, .int x5), (6, .int 0)]) rfl ?_
    exact h2
  · have h3 := h.2 c1
    refine ev_aload_n dX8_copy_110 0 rfl (by decide) ?_
    refine ev_getR' fl_8_234 rfl kd_82 rf_82_48 dX8_copy_111 ?_
    refine ev_iload dX8_copy_114 6 rfl ?_
    refine ev_aload_n dX8_copy_116 0 rfl (by decide) ?_
    refine ev_getR' fl_8_231 rfl kd_82 rf_82_47 dX8_copy_117 ?_
    refine ev_bipush (v := 40) dX8_copy_120 rfl ?_
    refine ev_iload_n dX8_copy_122 1 rfl ?_
    refine ev_imul dX8_copy_123 ?_
    refine ev_iload_n dX8_copy_124 2 rfl ?_
    refine ev_iadd dX8_copy_125 ?_
    refine ev_iload dX8_copy_126 6 rfl ?_
    refine ev_iadd dX8_copy_128 ?_
    have p4 := h3.1
    have h5 := h3.2
    refine ev_iaload' (v := (μ 111 (((40 * x1) + x2) + x6).toNatClampNeg)) kd_111 ln_111 p4 rfl dX8_copy_129 ?_
    have p6 := h5.1
    have h7 := h5.2
    refine ev_iastore' (j := x6.toNatClampNeg) kd_112 ln_112 p6 rfl dX8_copy_130 ?_
    refine ev_iinc (v := (x6 + 1)) (lv' := [(0, .ref 82), (1, .int x1), (2, .int x2), (3, .int x3), (4, .int x4), (5, .int x5), (6, .int (x6 + 1))]) dX8_copy_131 6 rfl rfl (by decide) [1, 2, 3, 4, 5, 6, 0] rfl ?_
    refine ev_goto (tgt := 103) dX8_copy_134 rfl ?_
    exact h7
theorem sg_X8_copy_140 {G : GW} {K : Option Value → Mem → Prop} {μ : Mem} {x3 x4 x5 x6 : Int32}  (h : ((x5 ≤ x6) → K (some (.int x5)) μ) ∧ ((¬ (x5 ≤ x6)) → (vp_in x6 40) ∧ (vp_in (((40 * x3) + x4) + x6) 160) ∧ Ev2 G mX8_copy 3 140 [(0, .ref 82), (3, .int x3), (4, .int x4), (5, .int x5), (6, .int (x6 + 1))] [] (mset μ 111 (((40 * x3) + x4) + x6).toNatClampNeg (μ 112 x6.toNatClampNeg)) K)) : Ev2 G mX8_copy 3 140 [(0, .ref 82), (3, .int x3), (4, .int x4), (5, .int x5), (6, .int x6)] [] μ K := by
  refine ev_iload dX8_copy_140 4 rfl ?_
  refine ev_iload dX8_copy_142 3 rfl ?_
  refine ev_icmp_ge (tgt := 175) dX8_copy_144 rfl (fun c1 => ?_) (fun c1 => ?_)
  · have h2 := h.1 c1
    refine ev_iload dX8_copy_175 3 rfl ?_
    exact ev_ireturn dX8_copy_177 rfl True.intro rfl rfl ⟨rfl, h2⟩
  · have h3 := h.2 c1
    refine ev_aload_n dX8_copy_147 0 rfl (by decide) ?_
    refine ev_getR' fl_8_231 rfl kd_82 rf_82_47 dX8_copy_148 ?_
    refine ev_bipush (v := 40) dX8_copy_151 rfl ?_
    refine ev_iload_n dX8_copy_153 1 rfl ?_
    refine ev_imul dX8_copy_154 ?_
    refine ev_iload dX8_copy_155 2 rfl ?_
    refine ev_iadd dX8_copy_157 ?_
    refine ev_iload dX8_copy_158 4 rfl ?_
    refine ev_iadd dX8_copy_160 ?_
    refine ev_aload_n dX8_copy_161 0 rfl (by decide) ?_
    refine ev_getR' fl_8_234 rfl kd_82 rf_82_48 dX8_copy_162 ?_
    refine ev_iload dX8_copy_165 4 rfl ?_
    have p4 := h3.1
    have h5 := h3.2
    refine ev_iaload' (v := (μ 112 x6.toNatClampNeg)) kd_112 ln_112 p4 rfl dX8_copy_167 ?_
    have p6 := h5.1
    have h7 := h5.2
    refine ev_iastore' (j := (((40 * x3) + x4) + x6).toNatClampNeg) kd_111 ln_111 p6 rfl dX8_copy_168 ?_
    refine ev_iinc (v := (x6 + 1)) (lv' := [(0, .ref 82), (3, .int x3), (4, .int x4), (5, .int x5), (6, .int (x6 + 1))]) dX8_copy_169 4 rfl rfl (by decide) [1, 2, 3, 4, 0] rfl ?_
    refine ev_goto (tgt := 140) dX8_copy_172 rfl ?_
    exact h7
theorem ix_cp {s i k : Nat} (hs : s < 4) (hk : i + k < 40) : vp_in (40 * nI s + nI i + nI k) 160 ∧ (40 * nI s + nI i + nI k).toNatClampNeg = 40 * s + i + k := by
  have e : 40 * nI s + nI i + nI k = nI (40 * s + i + k) := by
    rw [show (40 : Int32) = nI 40 from rfl, pk_mul, nI_add, nI_add]
  rw [e, ix_nI (by omega)]
  exact ⟨vp_nI (by omega) (by omega), rfl⟩
theorem lp_X8_copyB {G : GW} {μ : Mem} {o j n : Nat} (ho : o < 4) (hj : j + n ≤ 40) : ∀ l k (ν : Mem), k + l = n → (∀ r, r ≠ 111 → ν r = μ r) → (∀ x, ν 111 x = if 40 * o + j ≤ x ∧ x < 40 * o + j + k then μ 112 (x - (40 * o + j)) else μ 111 x) → Ev2 G mX8_copy 3 140 [(0, .ref 82), (3, .int (nI o)), (4, .int (nI j)), (5, .int (nI n)), (6, .int (nI k))] [] ν (fun v μ' => v = some (.int (nI n)) ∧ (∀ r, r ≠ 111 → μ' r = μ r) ∧ ∀ x, μ' 111 x = if 40 * o + j ≤ x ∧ x < 40 * o + j + n then μ 112 (x - (40 * o + j)) else μ 111 x) := by
  intro l
  induction l with
  | zero =>
    intro k ν hk h1 h2
    obtain rfl : k = n := hk
    exact sg_X8_copy_140 ⟨fun _ => ⟨rfl, h1, h2⟩, fun c => absurd (Int32.le_refl _) c⟩
  | succ l ih =>
    intro k ν hk h1 h2
    obtain ⟨q1, q2⟩ := ix_cp ho (i := j) (k := k) (by omega)
    refine sg_X8_copy_140 ⟨fun c => absurd c (nI_ge (by omega) (by omega)), fun _ => ⟨vp_nI (by omega) (by omega), q1, ?_⟩⟩
    rw [q2, ix_nI (by omega), h1 112 (by omega), nI_1]
    refine ih (k + 1) _ (by omega) (fun r hr => by rw [mset_ne hr]; exact h1 r hr) (fun x => ?_)
    by_cases c : x = 40 * o + j + k
    · rw [c, mset_same, if_pos (by omega), Nat.add_sub_cancel_left]
    · rw [mset_other (by omega), h2]
      by_cases d : 40 * o + j ≤ x ∧ x < 40 * o + j + k
      · rw [if_pos d, if_pos (by omega)]
      · rw [if_neg d, if_neg (by omega)]
theorem lp_X8_copyA {G : GW} {μ : Mem} {K : Option Value → Mem → Prop} {s i n : Nat} {x3 x4 : Int32} (hs : s < 4) (hi : i + n ≤ 40) (hk : ∀ ν : Mem, (∀ r, r ≠ 112 → ν r = μ r) → (∀ k, k < n → ν 112 k = μ 111 (40 * s + i + k)) → Ev2 G mX8_copy 3 140 [(0, .ref 82), (3, .int x3), (4, .int x4), (5, .int (nI n)), (6, .int 0)] [] ν K) : ∀ l k (ν : Mem), k + l = n → (∀ r, r ≠ 112 → ν r = μ r) → (∀ j, j < k → ν 112 j = μ 111 (40 * s + i + j)) → Ev2 G mX8_copy 3 103 [(0, .ref 82), (1, .int (nI s)), (2, .int (nI i)), (3, .int x3), (4, .int x4), (5, .int (nI n)), (6, .int (nI k))] [] ν K := by
  intro l
  induction l with
  | zero =>
    intro k ν hk' h1 h2
    obtain rfl : k = n := hk'
    exact sg_X8_copy_103 ⟨fun _ => hk ν h1 h2, fun c => absurd (Int32.le_refl _) c⟩
  | succ l ih =>
    intro k ν hk' h1 h2
    obtain ⟨q1, q2⟩ := ix_cp hs (i := i) (k := k) (by omega)
    refine sg_X8_copy_103 ⟨fun c => absurd c (nI_ge (by omega) (by omega)), fun _ => ⟨q1, vp_nI (by omega) (by omega), ?_⟩⟩
    rw [q2, ix_nI (by omega), h1 111 (by omega), nI_1]
    refine ih (k + 1) _ (by omega) (fun r hr => by rw [mset_ne hr]; exact h1 r hr) (fun j hj => ?_)
    by_cases c : j = k
    · rw [c, mset_same]
    · rw [mset_other (by omega)]
      exact h2 j (by omega)
theorem vm_cp {α μ ν : Mem} (h : VM α μ) {s i o j n : Nat} (hs : s < 4) (hi : i + n ≤ 40) (hj : j + n ≤ 40) (n1 : ∀ r, r ≠ 111 → r ≠ 112 → ν r = μ r) (n2 : ∀ x, ν 111 x = if 40 * o + j ≤ x ∧ x < 40 * o + j + n then μ 111 (40 * s + i + (x - (40 * o + j))) else μ 111 x) : VM (cpA α s i o j n) ν ∧ keepX μ ν := by
  obtain ⟨s1, s2, s3⟩ := h.sh hs
  obtain ⟨vc, vw, vr, vh, vt, vx, vi, vs, vk⟩ := h
  have e : ∀ r, r ≠ 16 → cpA α s i o j n r = α r := fun r h => cpA_row h
  have e0 : ∀ k, k < 100 → cpA α s i o j n 0 k = α 0 k := fun k _ => by rw [e 0 (by omega)]
  have n : ∀ r, (r ≠ 111 ∧ r ≠ 112) → ν r = μ r := fun r h => n1 r h.1 h.2
  have n0 : ∀ k, k < 100 → ν 82 k = μ 82 k := fun k _ => by rw [n 82 (by omega)]
  refine ⟨⟨?_, ?_, ?_, ?_, ?_, ?_, ?_, ?_, ?_⟩, fun a ha => n a (by omega)⟩
  · exact vc.eq (fun k _ => e0 k (by omega)) (fun k _ => n0 k (by omega))
  · exact vw.eq (e 1 (by omega)) (n 83 (by omega))
  · exact vr.eq (e0 1 (by omega)) (e 2 (by omega)) (e 3 (by omega)) (n 84 (by omega)) (n 85 (by omega))
  · exact vh.eq (e0 0 (by omega)) (fun f _ => e (4 + f) (by omega)) (fun f _ => n (86 + f) (by omega))
  · exact vt.eq (e0 4 (by omega)) (e 10 (by omega)) (n 92 (by omega))
  · exact vx.eq (e0 2 (by omega)) (e 17 (by omega)) (e 18 (by omega)) (n 93 (by omega)) (n 94 (by omega))
  · exact vi.eq (e 11 (by omega)) (e 12 (by omega)) (e 13 (by omega)) (fun k _ => n0 k (by omega)) (n 107 (by omega)) (n 108 (by omega))
  · intro t ht
    obtain ⟨t1, t2, t3⟩ := vs t ht
    rw [e 14 (by omega), e 15 (by omega), n 109 (by omega), n 110 (by omega)]
    refine ⟨t1, t2, fun k hk => ?_⟩
    rw [n2]
    unfold cpA
    split
    · rename_i c
      rw [if_pos ⟨rfl, c⟩, show 40 * s + i + (40 * t + k - (40 * o + j)) = 40 * s + (i + (40 * t + k - (40 * o + j))) by omega]
      exact s3 _ (by omega)
    · rename_i c
      rw [if_neg (fun q => c q.2)]
      exact t3 k hk
  · exact vk.eq (n 95 (by omega)) (n 96 (by omega))
theorem neg_sort {α : Mem} (hf : WF α) {s : Nat} (hs : s < 4) : (α 14 s < 0 ↔ α 14 s = -1) := by
  rcases (hf.2.2.2.2.2.2.2 s hs).1 with e | e | e | e <;> rw [e] <;> decide
theorem pb_X8_copy {G : GW} {α μ : Mem} (hf : WF α) (h : VM α μ) (x1 x2 x3 x4 x5 : Int32) : pubM G mX8_copy 3 [(0, .ref 82), (1, .int x1), (2, .int x2), (3, .int x3), (4, .int x4), (5, .int x5)] α μ (.int (sp_copy α x1 x2 x3 x4 x5)) (sq_copy α x1 x2 x3 x4 x5) := by
  have hk := keepX.rf μ
  refine sg_X8_copy_0 ⟨fun c => ?_, fun c1 => ⟨fun c2 => ?_, fun c => ?_⟩⟩
  · unfold sp_copy sq_copy
    rw [if_neg (by rw [c]; decide), if_neg (by rw [c]; simp)]
    exact ⟨rfl, h, hk⟩
  · obtain ⟨s, hs, rfl⟩ := inB_s c1
    obtain ⟨o, ho, rfl⟩ := inB_s c2
    obtain ⟨a1, a2, -⟩ := h.sh hs
    obtain ⟨b1, b2, -⟩ := h.sh ho
    obtain ⟨-, z, hz, ez⟩ := hf.2.2.2.2.2.2.2 s hs
    obtain ⟨-, y, hy, ey⟩ := hf.2.2.2.2.2.2.2 o ho
    unfold sp_copy sq_copy
    rw [if_pos c1, if_pos c2, ix_nI (i := s) (by omega), ix_nI (i := o) (by omega), a1, b1, a2, b2, neg_sort hf hs, sort_of hf ho, ez, ey]
    have vs : vp_in (nI s) 4 := vp_nI hs (by omega)
    have vo : vp_in (nI o) 4 := vp_nI ho (by omega)
    have ns := holdsB_iff hz x2 x5
    have no := holdsB_iff hy x4 x5
    refine ⟨vs, fun d => ?_, fun d => ⟨vo, fun e => ⟨vs, vo, fun f => ?_, fun f => ?_⟩, fun e => ?_⟩⟩
    · rw [if_pos d, if_neg (fun q => q.2.2.1 d)]
      exact ⟨rfl, h, hk⟩
    · rw [if_neg d, if_neg e, if_pos f]
      have bad1 : ¬ holdsB (nI z) x2 x5 = true → some (Value.int (-12)) = some (Value.int (if holdsB (nI z) x2 x5 = true then if holdsB (nI y) x4 x5 = true then x5 else -12 else -12)) ∧ VM (if inB (nI s) 0 3 = true ∧ inB (nI o) 0 3 = true ∧ ¬ α 14 s = -1 ∧ ¬ α 14 o = -1 ∧ α 14 s = α 14 o ∧ holdsB (nI z) x2 x5 = true ∧ holdsB (nI y) x4 x5 = true then cpA α s x2.toNatClampNeg o x4.toNatClampNeg x5.toNatClampNeg else α) μ ∧ keepX μ μ := fun q => by
        rw [if_neg q, if_neg (fun w => q w.2.2.2.2.2.1)]
        exact ⟨rfl, h, hk⟩
      have bad2 : ¬ holdsB (nI y) x4 x5 = true → some (Value.int (-12)) = some (Value.int (if holdsB (nI z) x2 x5 = true then if holdsB (nI y) x4 x5 = true then x5 else -12 else -12)) ∧ VM (if inB (nI s) 0 3 = true ∧ inB (nI o) 0 3 = true ∧ ¬ α 14 s = -1 ∧ ¬ α 14 o = -1 ∧ α 14 s = α 14 o ∧ holdsB (nI z) x2 x5 = true ∧ holdsB (nI y) x4 x5 = true then cpA α s x2.toNatClampNeg o x4.toNatClampNeg x5.toNatClampNeg else α) μ ∧ keepX μ μ := fun q => by
        rw [if_neg q, ite_self, if_neg (fun w => q w.2.2.2.2.2.2)]
        exact ⟨rfl, h, hk⟩
      refine ⟨fun g => bad1 (fun q => (ns.mp q).1 g), fun g1 => ⟨fun g => bad1 (fun q => (ns.mp q).2.1 g), fun g2 => ⟨fun g => bad2 (fun q => (no.mp q).2.1 g), fun g3 => ⟨vs, fun g => bad1 (fun q => (ns.mp q).2.2 g), fun g4 => ⟨vo, fun g5 => ?_, fun g => bad2 (fun q => g (Int32.not_lt.mp (no.mp q).2.2))⟩⟩⟩⟩⟩
      have k1 := ns.mpr ⟨g1, g2, g4⟩
      have k2 := no.mpr ⟨g1, g3, Int32.not_lt.mpr g5⟩
      rw [if_pos k1, if_pos k2, if_pos ⟨c1, c2, d, e, f, k1, k2⟩]
      obtain ⟨i, n, hin, rfl, rfl⟩ := holdsB_t hz k1
      obtain ⟨j, n', hjn, rfl, en⟩ := holdsB_t hy k2
      obtain rfl : n = n' := (nI_eq (by omega) (by omega)).mp en
      rw [ix_nI (i := i) (by omega), ix_nI (i := j) (by omega), ix_nI (i := n) (by omega)]
      refine lp_X8_copyA hs (i := i) (by omega) (fun ν h1 h2 => ?_) n 0 μ (Nat.zero_add _) (fun _ _ => rfl) (fun j hj => absurd hj (Nat.not_lt_zero j))
      refine ev2_imp (lp_X8_copyB (μ := ν) ho (j := j) (n := n) (by omega) n 0 ν (Nat.zero_add _) (fun _ _ => rfl) (fun x => by rw [if_neg (by omega)])) ?_
      rintro v ξ ⟨rfl, k1, k2⟩
      refine ⟨rfl, vm_cp h hs (by omega) (by omega) (fun r q1 q2 => (k1 r q1).trans (h1 r q2)) (fun x => ?_)⟩
      rw [k2]
      by_cases cx : 40 * o + j ≤ x ∧ x < 40 * o + j + n
      · rw [if_pos cx, if_pos cx, h2 _ (by omega)]
      · rw [if_neg cx, if_neg cx, h1 111 (by omega)]
    · rw [if_neg d, if_neg e, if_neg f, if_neg (fun q => f q.2.2.2.2.1)]
      exact ⟨rfl, h, hk⟩
    · have e := Decidable.not_not.mp e
      rw [if_neg d, if_pos e, if_neg (fun q => q.2.2.2.1 e)]
      exact ⟨rfl, h, hk⟩
  · unfold sp_copy sq_copy
    rw [if_pos c1, if_neg (by rw [c]; decide), if_neg (by rw [c]; simp)]
    exact ⟨rfl, h, hk⟩
/-! feed -/
theorem addT_n {α : Mem} (hf : WF α) {v : Int32} (hlt : aT α < 160) : addT α v 0 4 = nI (aT α + 1) ∧ aT (addT α v) = aT α + 1 := by
  have hT := hf.1.2.2.2.2.1
  have c : ¬ 160 ≤ α 0 4 := by rw [hT]; exact nI_ge (b := 160) hlt (by omega)
  have e : addT α v 0 4 = nI (aT α + 1) := by
    unfold addT
    rw [if_neg c, mset_same, hT, nI_p1]
  refine ⟨e, ?_⟩
  show (addT α v 0 4).toNatClampNeg = _
  rw [e, ix_nI (by omega)]
theorem vm_addT {α μ : Mem} (hf : WF α) (h : VM α μ) (v : Int32) (hlt : aT α < 160) : VM (addT α v) (mset (mset μ 92 (aT α) v) 82 12 (nI (aT α + 1))) ∧ keepX μ (mset (mset μ 92 (aT α) v) 82 12 (nI (aT α + 1))) := by
  have hT := hf.1.2.2.2.2.1
  have c : ¬ 160 ≤ α 0 4 := by rw [hT]; exact nI_ge (b := 160) hlt (by omega)
  obtain ⟨e4, eT⟩ := addT_n hf (v := v) hlt
  have e : ∀ r, (r ≠ 0 ∧ r ≠ 10) → addT α v r = α r := fun r h => addT_row h
  have e0 : ∀ k, k ≠ 4 → addT α v 0 k = α 0 k := fun k h => addT_0 h
  have n : ∀ a, (a ≠ 82 ∧ a ≠ 92) → mset (mset μ 92 (aT α) v) 82 12 (nI (aT α + 1)) a = μ a := fun a h => by rw [mset_ne h.1, mset_ne h.2]
  have n0 : ∀ k, k ≠ 12 → mset (mset μ 92 (aT α) v) 82 12 (nI (aT α + 1)) 82 k = μ 82 k := fun k h => by rw [mset_other (by omega), mset_ne (by omega)]
  obtain ⟨vc, vw, vr, vh, vt, vx, vi, vs, vk⟩ := h
  refine ⟨⟨⟨?_, ?_, ?_, ?_, ?_⟩, ?_, ?_, ?_, ?_, ?_, ?_, ?_, ?_⟩, fun a ha => n a (by omega)⟩
  · rw [n0 4 (by omega), e0 0 (by omega)]; exact vc.1
  · rw [n0 1 (by omega), e0 1 (by omega)]; exact vc.2.1
  · rw [n0 13 (by omega), e0 2 (by omega)]; exact vc.2.2.1
  · rw [n0 14 (by omega), e0 3 (by omega)]; exact vc.2.2.2.1
  · rw [mset_same, e4]
  · exact vw.eq (e 1 (by omega)) (n 83 (by omega))
  · exact vr.eq (e0 1 (by omega)) (e 2 (by omega)) (e 3 (by omega)) (n 84 (by omega)) (n 85 (by omega))
  · exact vh.eq (e0 0 (by omega)) (fun f _ => e (4 + f) (by omega)) (fun f _ => n (86 + f) (by omega))
  · intro i hi
    rw [eT] at hi
    have e10 : addT α v 10 = mset α 10 (aT α) v 10 := by
      unfold addT
      rw [if_neg c, mset_ne (by omega)]
    rw [e10, mset_ne (by omega)]
    by_cases d : i = aT α
    · rw [d, mset_same, mset_same]
    · rw [mset_other (by omega), mset_other (by omega)]
      exact vt i (by omega)
  · exact vx.eq (e0 2 (by omega)) (e 17 (by omega)) (e 18 (by omega)) (n 93 (by omega)) (n 94 (by omega))
  · exact vi.eq (e 11 (by omega)) (e 12 (by omega)) (e 13 (by omega)) (fun k _ => n0 k (by omega)) (n 107 (by omega)) (n 108 (by omega))
  · exact vs.eq (e 14 (by omega)) (e 15 (by omega)) (e 16 (by omega)) (n 109 (by omega)) (n 110 (by omega)) (n 111 (by omega))
  · exact vk.eq (n 95 (by omega)) (n 96 (by omega))
def fdV (a b c d e : Int32) (k : Nat) : Int32 := if k = 0 then a else if k = 1 then b else if k = 2 then c else if k = 3 then d else e
def fdS (α : Mem) (f : Nat → Int32) : Nat → Mem
  | 0 => α
  | k + 1 => addT (fdS α f k) (f k)
theorem fdS_n {α : Mem} (hf : WF α) {f : Nat → Int32} (hv : ∀ k, inB (f k) 0 255 = true) : ∀ k, aT α + k ≤ 160 → WF (fdS α f k) ∧ aT (fdS α f k) = aT α + k := by
  intro k
  induction k with
  | zero => intro _; exact ⟨hf, rfl⟩
  | succ k ih =>
    intro hk
    obtain ⟨h1, h2⟩ := ih (by omega)
    refine ⟨wf_addT h1 (hv k), ?_⟩
    show aT (addT (fdS α f k) (f k)) = _
    rw [(addT_n h1 (by omega)).2, h2]
    omega
theorem fdS_eq {α : Mem} {a b c d e : Int32} : ∀ N, 1 ≤ N → N ≤ 5 → fedA α (nI N) a b c d e = fdS α (fdV a b c d e) N := by
  intro N h1 h2
  unfold fedA
  rcases (show N = 1 ∨ N = 2 ∨ N = 3 ∨ N = 4 ∨ N = 5 by omega) with rfl | rfl | rfl | rfl | rfl
  · rw [fd_t (k := 1) (by decide), fd_t (k := 2) (by decide), fd_t (k := 3) (by decide), fd_t (k := 4) (by decide)]; rfl
  · rw [fd_f (k := 1) (by decide), fd_t (k := 2) (by decide), fd_t (k := 3) (by decide), fd_t (k := 4) (by decide)]; rfl
  · rw [fd_f (k := 1) (by decide), fd_f (k := 2) (by decide), fd_t (k := 3) (by decide), fd_t (k := 4) (by decide)]; rfl
  · rw [fd_f (k := 1) (by decide), fd_f (k := 2) (by decide), fd_f (k := 3) (by decide), fd_t (k := 4) (by decide)]; rfl
  · rw [fd_f (k := 1) (by decide), fd_f (k := 2) (by decide), fd_f (k := 3) (by decide), fd_f (k := 4) (by decide)]; rfl
theorem sg_X8_feed_0 {G : GW} {K : Option Value → Mem → Prop} {μ : Mem} {x1 x2 x3 x4 x5 x6 : Int32}  (h : (((inB x1 (1 : Int32) (5 : Int32)) = false) → K (some (.int (-2))) μ) ∧ (((inB x1 (1 : Int32) (5 : Int32)) = true) → (((inB x2 (0 : Int32) (255 : Int32)) = false) → K (some (.int (-2))) μ) ∧ (((inB x2 (0 : Int32) (255 : Int32)) = true) → (((inB x3 (0 : Int32) (255 : Int32)) = false) → K (some (.int (-2))) μ) ∧ (((inB x3 (0 : Int32) (255 : Int32)) = true) → (((inB x4 (0 : Int32) (255 : Int32)) = false) → K (some (.int (-2))) μ) ∧ (((inB x4 (0 : Int32) (255 : Int32)) = true) → (((inB x5 (0 : Int32) (255 : Int32)) = false) → K (some (.int (-2))) μ) ∧ (((inB x5 (0 : Int32) (255 : Int32)) = true) → (((inB x6 (0 : Int32) (255 : Int32)) = true) → ((((μ 82 12) + x1) ≤ 160) → Ev2 G mX8_feed 2 88 [(0, .ref 82), (1, .int x1), (2, .int x2), (3, .int x3), (4, .int x4), (5, .int x5), (6, .int x6), (7, .int 0)] [] μ K) ∧ ((¬ (((μ 82 12) + x1) ≤ 160)) → K (some (.int (-4))) μ)) ∧ (((inB x6 (0 : Int32) (255 : Int32)) = false) → K (some (.int (-2))) μ))))))) : Ev2 G mX8_feed 2 0 [(0, .ref 82), (1, .int x1), (2, .int x2), (3, .int x3), (4, .int x4), (5, .int x5), (6, .int x6)] [] μ K := by
  refine ev_iload_n dX8_feed_0 1 rfl ?_
  refine ev_iconst (v := 1) dX8_feed_1 rfl ?_
  refine ev_iconst (v := 5) dX8_feed_2 rfl ?_
  refine e2_callS (w := .int (bi (inB x1 (1 : Int32) (5 : Int32)))) (μ1 := μ) (as := [.int x1, .int 1, .int 5]) (st := []) ok_X8_isIn sv_X8_isIn ml_8_3 dX8_feed_3 rfl rfl (Nat.le_of_ble_eq_true rfl) (Nat.le_of_ble_eq_true rfl) (by decide) (ct_X8_isIn (x1) (1) (5) μ) ?_
  refine ev_ifeq_bi (tgt := 67) dX8_feed_6 rfl (fun c1 => ?_) (fun c1 => ?_)
  · have h2 := h.1 c1
    refine ev_bipush (v := (-2)) dX8_feed_67 rfl ?_
    exact ev_ireturn dX8_feed_69 rfl True.intro rfl rfl ⟨rfl, h2⟩
  · have h3 := h.2 c1
    refine ev_iload_n dX8_feed_9 2 rfl ?_
    refine ev_iconst (v := 0) dX8_feed_10 rfl ?_
    refine ev_sipush (v := 255) dX8_feed_11 rfl ?_
    refine e2_callS (w := .int (bi (inB x2 (0 : Int32) (255 : Int32)))) (μ1 := μ) (as := [.int x2, .int 0, .int 255]) (st := []) ok_X8_isIn sv_X8_isIn ml_8_3 dX8_feed_14 rfl rfl (Nat.le_of_ble_eq_true rfl) (Nat.le_of_ble_eq_true rfl) (by decide) (ct_X8_isIn (x2) (0) (255) μ) ?_
    refine ev_ifeq_bi (tgt := 67) dX8_feed_17 rfl (fun c4 => ?_) (fun c4 => ?_)
    · have h5 := h3.1 c4
      refine ev_bipush (v := (-2)) dX8_feed_67 rfl ?_
      exact ev_ireturn dX8_feed_69 rfl True.intro rfl rfl ⟨rfl, h5⟩
    · have h6 := h3.2 c4
      refine ev_iload_n dX8_feed_20 3 rfl ?_
      refine ev_iconst (v := 0) dX8_feed_21 rfl ?_
      refine ev_sipush (v := 255) dX8_feed_22 rfl ?_
      refine e2_callS (w := .int (bi (inB x3 (0 : Int32) (255 : Int32)))) (μ1 := μ) (as := [.int x3, .int 0, .int 255]) (st := []) ok_X8_isIn sv_X8_isIn ml_8_3 dX8_feed_25 rfl rfl (Nat.le_of_ble_eq_true rfl) (Nat.le_of_ble_eq_true rfl) (by decide) (ct_X8_isIn (x3) (0) (255) μ) ?_
      refine ev_ifeq_bi (tgt := 67) dX8_feed_28 rfl (fun c7 => ?_) (fun c7 => ?_)
      · have h8 := h6.1 c7
        refine ev_bipush (v := (-2)) dX8_feed_67 rfl ?_
        exact ev_ireturn dX8_feed_69 rfl True.intro rfl rfl ⟨rfl, h8⟩
      · have h9 := h6.2 c7
        refine ev_iload dX8_feed_31 4 rfl ?_
        refine ev_iconst (v := 0) dX8_feed_33 rfl ?_
        refine ev_sipush (v := 255) dX8_feed_34 rfl ?_
        refine e2_callS (w := .int (bi (inB x4 (0 : Int32) (255 : Int32)))) (μ1 := μ) (as := [.int x4, .int 0, .int 255]) (st := []) ok_X8_isIn sv_X8_isIn ml_8_3 dX8_feed_37 rfl rfl (Nat.le_of_ble_eq_true rfl) (Nat.le_of_ble_eq_true rfl) (by decide) (ct_X8_isIn (x4) (0) (255) μ) ?_
        refine ev_ifeq_bi (tgt := 67) dX8_feed_40 rfl (fun c10 => ?_) (fun c10 => ?_)
        · have h11 := h9.1 c10
          refine ev_bipush (v := (-2)) dX8_feed_67 rfl ?_
          exact ev_ireturn dX8_feed_69 rfl True.intro rfl rfl ⟨rfl, h11⟩
        · have h12 := h9.2 c10
          refine ev_iload dX8_feed_43 5 rfl ?_
          refine ev_iconst (v := 0) dX8_feed_45 rfl ?_
          refine ev_sipush (v := 255) dX8_feed_46 rfl ?_
          refine e2_callS (w := .int (bi (inB x5 (0 : Int32) (255 : Int32)))) (μ1 := μ) (as := [.int x5, .int 0, .int 255]) (st := []) ok_X8_isIn sv_X8_isIn ml_8_3 dX8_feed_49 rfl rfl (Nat.le_of_ble_eq_true rfl) (Nat.le_of_ble_eq_true rfl) (by decide) (ct_X8_isIn (x5) (0) (255) μ) ?_
          refine ev_ifeq_bi (tgt := 67) dX8_feed_52 rfl (fun c13 => ?_) (fun c13 => ?_)
          · have h14 := h12.1 c13
            refine ev_bipush (v := (-2)) dX8_feed_67 rfl ?_
            exact ev_ireturn dX8_feed_69 rfl True.intro rfl rfl ⟨rfl, h14⟩
          · have h15 := h12.2 c13
            refine ev_iload dX8_feed_55 6 rfl ?_
            refine ev_iconst (v := 0) dX8_feed_57 rfl ?_
            refine ev_sipush (v := 255) dX8_feed_58 rfl ?_
            refine e2_callS (w := .int (bi (inB x6 (0 : Int32) (255 : Int32)))) (μ1 := μ) (as := [.int x6, .int 0, .int 255]) (st := []) ok_X8_isIn sv_X8_isIn ml_8_3 dX8_feed_61 rfl rfl (Nat.le_of_ble_eq_true rfl) (Nat.le_of_ble_eq_true rfl) (by decide) (ct_X8_isIn (x6) (0) (255) μ) ?_
            refine ev_ifne_bi (tgt := 70) dX8_feed_64 rfl (fun c16 => ?_) (fun c16 => ?_)
            · have h17 := h15.1 c16
              refine ev_aload_n dX8_feed_70 0 rfl (by decide) ?_
              refine ev_getI' (v := (μ 82 12)) fl_8_79 rfl kd_82 rfl dX8_feed_71 ?_
              refine ev_iload_n dX8_feed_74 1 rfl ?_
              refine ev_iadd dX8_feed_75 ?_
              refine ev_sipush (v := 160) dX8_feed_76 rfl ?_
              refine ev_icmp_le (tgt := 85) dX8_feed_79 rfl (fun c19 => ?_) (fun c19 => ?_)
              · have h20 := h17.1 c19
                refine ev_iconst (v := 0) dX8_feed_85 rfl ?_
                refine ev_istore (lv' := [(0, .ref 82), (1, .int x1), (2, .int x2), (3, .int x3), (4, .int x4), (5, .int x5), (6, .int x6), (7, .int 0)]) dX8_feed_86 (by decide) [1, 2, 3, 4, 5, 6, 7, 0] rfl ?_
                exact h20
              · have h21 := h17.2 c19
                refine ev_bipush (v := (-4)) dX8_feed_82 rfl ?_
                exact ev_ireturn dX8_feed_84 rfl True.intro rfl rfl ⟨rfl, h21⟩
            · have h18 := h15.2 c16
              refine ev_bipush (v := (-2)) dX8_feed_67 rfl ?_
              exact ev_ireturn dX8_feed_69 rfl True.intro rfl rfl ⟨rfl, h18⟩
theorem sg_X8_feed_88 {G : GW} {K : Option Value → Mem → Prop} {μ : Mem} {x1 x2 x3 x4 x5 x6 x7 : Int32}  (h : ((x1 ≤ x7) → K (some (.int (μ 82 12))) μ) ∧ ((¬ (x1 ≤ x7)) → ((¬ x7 = 0) → ((¬ x7 = 1) → ((¬ x7 = 2) → ((¬ x7 = 3) → (vp_in (μ 82 12) 160) ∧ Ev2 G mX8_feed 2 88 [(0, .ref 82), (1, .int x1), (2, .int x2), (3, .int x3), (4, .int x4), (5, .int x5), (6, .int x6), (7, .int (x7 + 1))] [] (mset (mset μ 92 (μ 82 12).toNatClampNeg x6) 82 12 ((μ 82 12) + 1)) K) ∧ ((x7 = 3) → (vp_in (μ 82 12) 160) ∧ Ev2 G mX8_feed 2 88 [(0, .ref 82), (1, .int x1), (2, .int x2), (3, .int x3), (4, .int x4), (5, .int x5), (6, .int x6), (7, .int (x7 + 1))] [] (mset (mset μ 92 (μ 82 12).toNatClampNeg x5) 82 12 ((μ 82 12) + 1)) K)) ∧ ((x7 = 2) → (vp_in (μ 82 12) 160) ∧ Ev2 G mX8_feed 2 88 [(0, .ref 82), (1, .int x1), (2, .int x2), (3, .int x3), (4, .int x4), (5, .int x5), (6, .int x6), (7, .int (x7 + 1))] [] (mset (mset μ 92 (μ 82 12).toNatClampNeg x4) 82 12 ((μ 82 12) + 1)) K)) ∧ ((x7 = 1) → (vp_in (μ 82 12) 160) ∧ Ev2 G mX8_feed 2 88 [(0, .ref 82), (1, .int x1), (2, .int x2), (3, .int x3), (4, .int x4), (5, .int x5), (6, .int x6), (7, .int (x7 + 1))] [] (mset (mset μ 92 (μ 82 12).toNatClampNeg x3) 82 12 ((μ 82 12) + 1)) K)) ∧ ((x7 = 0) → (vp_in (μ 82 12) 160) ∧ Ev2 G mX8_feed 2 88 [(0, .ref 82), (1, .int x1), (2, .int x2), (3, .int x3), (4, .int x4), (5, .int x5), (6, .int x6), (7, .int (x7 + 1))] [] (mset (mset μ 92 (μ 82 12).toNatClampNeg x2) 82 12 ((μ 82 12) + 1)) K))) : Ev2 G mX8_feed 2 88 [(0, .ref 82), (1, .int x1), (2, .int x2), (3, .int x3), (4, .int x4), (5, .int x5), (6, .int x6), (7, .int x7)] [] μ K := by
  refine ev_iload dX8_feed_88 7 rfl ?_
  refine ev_iload_n dX8_feed_90 1 rfl ?_
  refine ev_icmp_ge (tgt := 162) dX8_feed_91 rfl (fun c1 => ?_) (fun c1 => ?_)
  · have h2 := h.1 c1
    refine ev_aload_n dX8_feed_162 0 rfl (by decide) ?_
    refine ev_getI' (v := (μ 82 12)) fl_8_79 rfl kd_82 rfl dX8_feed_163 ?_
    exact ev_ireturn dX8_feed_166 rfl True.intro rfl rfl ⟨rfl, h2⟩
  · have h3 := h.2 c1
    refine ev_aload_n dX8_feed_94 0 rfl (by decide) ?_
    refine ev_getR' fl_8_82 rfl kd_82 rf_82_11 dX8_feed_95 ?_
    refine ev_aload_n dX8_feed_98 0 rfl (by decide) ?_
    refine ev_getI' (v := (μ 82 12)) fl_8_79 rfl kd_82 rfl dX8_feed_99 ?_
    refine ev_iload dX8_feed_102 7 rfl ?_
    refine ev_if_ne (tgt := 111) dX8_feed_104 rfl (fun c4 => ?_) (fun c4 => ?_)
    · have h5 := h3.1 c4
      refine ev_iload dX8_feed_111 7 rfl ?_
      refine ev_iconst (v := 1) dX8_feed_113 rfl ?_
      refine ev_icmp_ne (tgt := 121) dX8_feed_114 rfl (fun c7 => ?_) (fun c7 => ?_)
      · have h8 := h5.1 c7
        refine ev_iload dX8_feed_121 7 rfl ?_
        refine ev_iconst (v := 2) dX8_feed_123 rfl ?_
        refine ev_icmp_ne (tgt := 132) dX8_feed_124 rfl (fun c10 => ?_) (fun c10 => ?_)
        · have h11 := h8.1 c10
          refine ev_iload dX8_feed_132 7 rfl ?_
          refine ev_iconst (v := 3) dX8_feed_134 rfl ?_
          refine ev_icmp_ne (tgt := 143) dX8_feed_135 rfl (fun c13 => ?_) (fun c13 => ?_)
          · have h14 := h11.1 c13
            refine ev_iload dX8_feed_143 6 rfl ?_
            have p16 := h14.1
            have h17 := h14.2
            refine ev_iastore' (j := (μ 82 12).toNatClampNeg) kd_92 ln_92 p16 rfl dX8_feed_145 ?_
            refine ev_aload_n dX8_feed_146 0 rfl (by decide) ?_
            refine ev_dup dX8_feed_147 rfl ?_
            refine ev_getI' (v := (μ 82 12)) fl_8_79 rfl kd_82 rfl dX8_feed_148 ?_
            refine ev_iconst (v := 1) dX8_feed_151 rfl ?_
            refine ev_iadd dX8_feed_152 ?_
            refine ev_putI fl_8_79 ⟨rfl, rfl, rfl⟩ (fun r hr => by cases hr; rfl) kd_82 dX8_feed_153 ?_
            refine ev_iinc (v := (x7 + 1)) (lv' := [(0, .ref 82), (1, .int x1), (2, .int x2), (3, .int x3), (4, .int x4), (5, .int x5), (6, .int x6), (7, .int (x7 + 1))]) dX8_feed_156 7 rfl rfl (by decide) [1, 2, 3, 4, 5, 6, 7, 0] rfl ?_
            refine ev_goto (tgt := 88) dX8_feed_159 rfl ?_
            exact h17
          · have h15 := h11.2 c13
            refine ev_iload dX8_feed_138 5 rfl ?_
            refine ev_goto (tgt := 145) dX8_feed_140 rfl ?_
            have p18 := h15.1
            have h19 := h15.2
            refine ev_iastore' (j := (μ 82 12).toNatClampNeg) kd_92 ln_92 p18 rfl dX8_feed_145 ?_
            refine ev_aload_n dX8_feed_146 0 rfl (by decide) ?_
            refine ev_dup dX8_feed_147 rfl ?_
            refine ev_getI' (v := (μ 82 12)) fl_8_79 rfl kd_82 rfl dX8_feed_148 ?_
            refine ev_iconst (v := 1) dX8_feed_151 rfl ?_
            refine ev_iadd dX8_feed_152 ?_
            refine ev_putI fl_8_79 ⟨rfl, rfl, rfl⟩ (fun r hr => by cases hr; rfl) kd_82 dX8_feed_153 ?_
            refine ev_iinc (v := (x7 + 1)) (lv' := [(0, .ref 82), (1, .int x1), (2, .int x2), (3, .int x3), (4, .int x4), (5, .int x5), (6, .int x6), (7, .int (x7 + 1))]) dX8_feed_156 7 rfl rfl (by decide) [1, 2, 3, 4, 5, 6, 7, 0] rfl ?_
            refine ev_goto (tgt := 88) dX8_feed_159 rfl ?_
            exact h19
        · have h12 := h8.2 c10
          refine ev_iload dX8_feed_127 4 rfl ?_
          refine ev_goto (tgt := 145) dX8_feed_129 rfl ?_
          have p20 := h12.1
          have h21 := h12.2
          refine ev_iastore' (j := (μ 82 12).toNatClampNeg) kd_92 ln_92 p20 rfl dX8_feed_145 ?_
          refine ev_aload_n dX8_feed_146 0 rfl (by decide) ?_
          refine ev_dup dX8_feed_147 rfl ?_
          refine ev_getI' (v := (μ 82 12)) fl_8_79 rfl kd_82 rfl dX8_feed_148 ?_
          refine ev_iconst (v := 1) dX8_feed_151 rfl ?_
          refine ev_iadd dX8_feed_152 ?_
          refine ev_putI fl_8_79 ⟨rfl, rfl, rfl⟩ (fun r hr => by cases hr; rfl) kd_82 dX8_feed_153 ?_
          refine ev_iinc (v := (x7 + 1)) (lv' := [(0, .ref 82), (1, .int x1), (2, .int x2), (3, .int x3), (4, .int x4), (5, .int x5), (6, .int x6), (7, .int (x7 + 1))]) dX8_feed_156 7 rfl rfl (by decide) [1, 2, 3, 4, 5, 6, 7, 0] rfl ?_
          refine ev_goto (tgt := 88) dX8_feed_159 rfl ?_
          exact h21
      · have h9 := h5.2 c7
        refine ev_iload_n dX8_feed_117 3 rfl ?_
        refine ev_goto (tgt := 145) dX8_feed_118 rfl ?_
        have p22 := h9.1
        have h23 := h9.2
        refine ev_iastore' (j := (μ 82 12).toNatClampNeg) kd_92 ln_92 p22 rfl dX8_feed_145 ?_
        refine ev_aload_n dX8_feed_146 0 rfl (by decide) ?_
        refine ev_dup dX8_feed_147 rfl ?_
        refine ev_getI' (v := (μ 82 12)) fl_8_79 rfl kd_82 rfl dX8_feed_148 ?_
        refine ev_iconst (v := 1) dX8_feed_151 rfl ?_
        refine ev_iadd dX8_feed_152 ?_
        refine ev_putI fl_8_79 ⟨rfl, rfl, rfl⟩ (fun r hr => by cases hr; rfl) kd_82 dX8_feed_153 ?_
        refine ev_iinc (v := (x7 + 1)) (lv' := [(0, .ref 82), (1, .int x1), (2, .int x2), (3, .int x3), (4, .int x4), (5, .int x5), (6, .int x6), (7, .int (x7 + 1))]) dX8_feed_156 7 rfl rfl (by decide) [1, 2, 3, 4, 5, 6, 7, 0] rfl ?_
        refine ev_goto (tgt := 88) dX8_feed_159 rfl ?_
        exact h23
    · have h6 := h3.2 c4
      refine ev_iload_n dX8_feed_107 2 rfl ?_
      refine ev_goto (tgt := 145) dX8_feed_108 rfl ?_
      have p24 := h6.1
      have h25 := h6.2
      refine ev_iastore' (j := (μ 82 12).toNatClampNeg) kd_92 ln_92 p24 rfl dX8_feed_145 ?_
      refine ev_aload_n dX8_feed_146 0 rfl (by decide) ?_
      refine ev_dup dX8_feed_147 rfl ?_
      refine ev_getI' (v := (μ 82 12)) fl_8_79 rfl kd_82 rfl dX8_feed_148 ?_
      refine ev_iconst (v := 1) dX8_feed_151 rfl ?_
      refine ev_iadd dX8_feed_152 ?_
      refine ev_putI fl_8_79 ⟨rfl, rfl, rfl⟩ (fun r hr => by cases hr; rfl) kd_82 dX8_feed_153 ?_
      refine ev_iinc (v := (x7 + 1)) (lv' := [(0, .ref 82), (1, .int x1), (2, .int x2), (3, .int x3), (4, .int x4), (5, .int x5), (6, .int x6), (7, .int (x7 + 1))]) dX8_feed_156 7 rfl rfl (by decide) [1, 2, 3, 4, 5, 6, 7, 0] rfl ?_
      refine ev_goto (tgt := 88) dX8_feed_159 rfl ?_
      exact h25
theorem lp_X8_feed {G : GW} {α μ0 : Mem} (hf : WF α) {N : Nat} {a b c d e : Int32} (hv : ∀ k, inB (fdV a b c d e k) 0 255 = true) (hN : N ≤ 5) (hT : aT α + N ≤ 160) : ∀ j k (μ : Mem), k + j = N → VM (fdS α (fdV a b c d e) k) μ → keepX μ0 μ → Ev2 G mX8_feed 2 88 [(0, .ref 82), (1, .int (nI N)), (2, .int a), (3, .int b), (4, .int c), (5, .int d), (6, .int e), (7, .int (nI k))] [] μ (fun v μ' => v = some (.int (fdS α (fdV a b c d e) N 0 4)) ∧ VM (fdS α (fdV a b c d e) N) μ' ∧ keepX μ0 μ') := by
  intro j
  induction j with
  | zero =>
    intro k μ hk h hm
    obtain rfl : k = N := hk
    exact sg_X8_feed_88 ⟨fun _ => ⟨by rw [h.1.2.2.2.2], h, hm⟩, fun q => absurd (Int32.le_refl _) q⟩
  | succ j ih =>
    intro k μ hk h hm
    obtain ⟨w1, w2⟩ := fdS_n hf hv k (by omega)
    obtain ⟨g1, g2⟩ := vm_addT w1 h (fdV a b c d e k) (by omega)
    have hh := ih (k + 1) _ (by omega) g1 (hm.tr g2)
    have c12 : μ 82 12 = nI (aT (fdS α (fdV a b c d e) k)) := h.1.2.2.2.2.trans w1.1.2.2.2.2.1
    rw [← nI_1, ← nI_1 (aT _)] at hh
    have hv12 : vp_in (nI (aT (fdS α (fdV a b c d e) k))) 160 := vp_nI (by omega) (by omega)
    refine sg_X8_feed_88 ?_
    rw [c12, ix_nI (by omega)]
    have n0 : ∀ q : Nat, q < 5 → (nI k = nI q ↔ k = q) := fun q hq => nI_eq (by omega) (by omega)
    have z0 : nI k = 0 ↔ k = 0 := n0 0 (by omega)
    have z1 : nI k = 1 ↔ k = 1 := n0 1 (by omega)
    have z2 : nI k = 2 ↔ k = 2 := n0 2 (by omega)
    have z3 : nI k = 3 ↔ k = 3 := n0 3 (by omega)
    rw [z0, z1, z2, z3]
    unfold fdV at hh hv12 ⊢
    refine ⟨fun q => absurd q (nI_ge (by omega) (by omega)), fun _ => ⟨fun k0 => ⟨fun k1 => ⟨fun k2 => ⟨fun k3 => ⟨hv12, ?_⟩, fun k3 => ⟨hv12, ?_⟩⟩, fun k2 => ⟨hv12, ?_⟩⟩, fun k1 => ⟨hv12, ?_⟩⟩, fun k0 => ⟨hv12, ?_⟩⟩⟩
    · rw [if_neg k0, if_neg k1, if_neg k2, if_neg k3] at hh
      exact hh
    · rw [if_neg k0, if_neg k1, if_neg k2, if_pos k3] at hh
      exact hh
    · rw [if_neg k0, if_neg k1, if_pos k2] at hh
      exact hh
    · rw [if_neg k0, if_pos k1] at hh
      exact hh
    · rw [if_pos k0] at hh
      exact hh
theorem pb_X8_feed {G : GW} {α μ : Mem} (hf : WF α) (h : VM α μ) (x1 x2 x3 x4 x5 x6 : Int32) : pubM G mX8_feed 2 [(0, .ref 82), (1, .int x1), (2, .int x2), (3, .int x3), (4, .int x4), (5, .int x5), (6, .int x6)] α μ (.int (sp_feed α x1 x2 x3 x4 x5 x6)) (sq_feed α x1 x2 x3 x4 x5 x6) := by
  have hk := keepX.rf μ
  have no : inB x1 1 5 = true → bytesB x2 x3 x4 x5 x6 = false → (some (Value.int (-2)) = some (Value.int (sp_feed α x1 x2 x3 x4 x5 x6)) ∧ VM (sq_feed α x1 x2 x3 x4 x5 x6) μ ∧ keepX μ μ) := fun q r => by
    unfold sp_feed sq_feed
    rw [if_pos q, if_neg (by rw [r]; decide), if_neg (by rw [r]; simp)]
    exact ⟨rfl, h, hk⟩
  refine sg_X8_feed_0 ⟨fun q => ?_, fun q => ⟨fun c => no q (by simp [bytesB, c]), fun c2 => ⟨fun c => no q (by simp [bytesB, c]), fun c3 => ⟨fun c => no q (by simp [bytesB, c]), fun c4 => ⟨fun c => no q (by simp [bytesB, c]), fun c5 => ⟨fun c6 => ?_, fun c => no q (by simp [bytesB, c])⟩⟩⟩⟩⟩⟩
  · unfold sp_feed sq_feed
    rw [if_neg (by rw [q]; decide), if_neg (by rw [q]; simp)]
    exact ⟨rfl, h, hk⟩
  · have r : bytesB x2 x3 x4 x5 x6 = true := by simp [bytesB, c2, c3, c4, c5, c6]
    rw [h.1.2.2.2.2]
    unfold sp_feed sq_feed
    rw [if_pos q, if_pos r]
    refine ⟨fun u => ?_, fun u => ?_⟩
    · rw [if_pos u, if_pos ⟨q, r, u⟩]
      obtain ⟨N, hN1, hN5, rfl⟩ := inB_mid (lo := 1) (hi := 5) (by omega) (by omega) q
      have hT := hf.1.2.2.2.2
      have hTN : aT α + N ≤ 160 := by
        rw [hT.1, nI_add, i_le, nI_toInt (by omega)] at u
        have e1 : (160 : Int32).toInt = 160 := by decide
        rw [e1] at u
        omega
      rw [fdS_eq N hN1 hN5]
      refine lp_X8_feed hf (fun k => ?_) hN5 hTN N 0 μ (Nat.zero_add _) h hk
      unfold fdV
      split
      · exact c2
      · split
        · exact c3
        · split
          · exact c4
          · split
            · exact c5
            · exact c6
    · rw [if_neg u, if_neg (fun z => u z.2.2)]
      exact ⟨rfl, h, hk⟩
/-! horsesBy -/
theorem ct_X8_horse {G : GW} {α : Mem} (hf : WF α) (x1 x2 x3 x4 : Int32) (μ : Mem) (h : VM α μ) : Ev2 G mX8_horse 3 0 [(0, .ref 82), (1, .int x1), (2, .int x2), (3, .int x3), (4, .int x4)] [] μ (fun v μ' => ∃ x, v = some (.int x) ∧ (x = sp_horse α x1 x2 x3 x4 ∧ VM (sq_horse α x1 x2 x3 x4) μ' ∧ keepX μ μ')) := by
  refine ev2_imp (pb_X8_horse hf h x1 x2 x3 x4) ?_
  rintro v μ' ⟨rfl, h1, h2⟩
  exact ⟨_, rfl, rfl, h1, h2⟩
theorem sg_X8_horsesBy_0 {G : GW} {K : Option Value → Mem → Prop} {μ : Mem} {α : Mem} (hf : WF α) {x1 x2 x3 x4 : Int32}  (h : (((inB x1 0 3) = false) → K (some (.int (-2))) μ) ∧ (((inB x1 0 3) = true) → (((inB x2 (0 : Int32) (2 : Int32)) = false) → K (some (.int (-2))) μ) ∧ (((inB x2 (0 : Int32) (2 : Int32)) = true) → (((inB x4 (0 : Int32) (7 : Int32)) = true) → (vp_in x1 4) ∧ ((0 ≤ (μ 109 x1.toNatClampNeg)) → (vp_in x1 4) ∧ (((μ 109 x1.toNatClampNeg) = x2) → Ev2 G mX8_horsesBy 4 61 [(0, .ref 82), (1, .int x1), (3, .int x3), (4, .int x4), (5, .int 0), (6, .int 0)] [] μ K) ∧ ((¬ ((μ 109 x1.toNatClampNeg) = x2)) → K (some (.int (-13))) μ)) ∧ ((¬ (0 ≤ (μ 109 x1.toNatClampNeg))) → K (some (.int (-11))) μ)) ∧ (((inB x4 (0 : Int32) (7 : Int32)) = false) → K (some (.int (-2))) μ)))) : Ev2 G mX8_horsesBy 4 0 [(0, .ref 82), (1, .int x1), (2, .int x2), (3, .int x3), (4, .int x4)] [] μ K := by
  refine ev_iload_n dX8_horsesBy_0 1 rfl ?_
  refine e2_callS (w := .int (bi (inB x1 0 3))) (μ1 := μ) (as := [.int x1]) (st := []) ok_X8_isSheet sv_X8_isSheet ml_8_288 dX8_horsesBy_1 rfl rfl (Nat.le_of_ble_eq_true rfl) (Nat.le_of_ble_eq_true rfl) (by decide) (ct_X8_isSheet (x1) μ) ?_
  refine ev_ifeq_bi (tgt := 27) dX8_horsesBy_4 rfl (fun c1 => ?_) (fun c1 => ?_)
  · have h2 := h.1 c1
    refine ev_bipush (v := (-2)) dX8_horsesBy_27 rfl ?_
    exact ev_ireturn dX8_horsesBy_29 rfl True.intro rfl rfl ⟨rfl, h2⟩
  · have h3 := h.2 c1
    refine ev_iload_n dX8_horsesBy_7 2 rfl ?_
    refine ev_iconst (v := 0) dX8_horsesBy_8 rfl ?_
    refine ev_iconst (v := 2) dX8_horsesBy_9 rfl ?_
    refine e2_callS (w := .int (bi (inB x2 (0 : Int32) (2 : Int32)))) (μ1 := μ) (as := [.int x2, .int 0, .int 2]) (st := []) ok_X8_isIn sv_X8_isIn ml_8_3 dX8_horsesBy_10 rfl rfl (Nat.le_of_ble_eq_true rfl) (Nat.le_of_ble_eq_true rfl) (by decide) (ct_X8_isIn (x2) (0) (2) μ) ?_
    refine ev_ifeq_bi (tgt := 27) dX8_horsesBy_13 rfl (fun c4 => ?_) (fun c4 => ?_)
    · have h5 := h3.1 c4
      refine ev_bipush (v := (-2)) dX8_horsesBy_27 rfl ?_
      exact ev_ireturn dX8_horsesBy_29 rfl True.intro rfl rfl ⟨rfl, h5⟩
    · have h6 := h3.2 c4
      refine ev_iload dX8_horsesBy_16 4 rfl ?_
      refine ev_iconst (v := 0) dX8_horsesBy_18 rfl ?_
      refine ev_bipush (v := 7) dX8_horsesBy_19 rfl ?_
      refine e2_callS (w := .int (bi (inB x4 (0 : Int32) (7 : Int32)))) (μ1 := μ) (as := [.int x4, .int 0, .int 7]) (st := []) ok_X8_isIn sv_X8_isIn ml_8_3 dX8_horsesBy_21 rfl rfl (Nat.le_of_ble_eq_true rfl) (Nat.le_of_ble_eq_true rfl) (by decide) (ct_X8_isIn (x4) (0) (7) μ) ?_
      refine ev_ifne_bi (tgt := 30) dX8_horsesBy_24 rfl (fun c7 => ?_) (fun c7 => ?_)
      · have h8 := h6.1 c7
        refine ev_aload_n dX8_horsesBy_30 0 rfl (by decide) ?_
        refine ev_getR' fl_8_225 rfl kd_82 rf_82_45 dX8_horsesBy_31 ?_
        refine ev_iload_n dX8_horsesBy_34 1 rfl ?_
        have p10 := h8.1
        have h11 := h8.2
        refine ev_iaload' (v := (μ 109 x1.toNatClampNeg)) kd_109 ln_109 p10 rfl dX8_horsesBy_35 ?_
        refine ev_if_ge (tgt := 42) dX8_horsesBy_36 rfl (fun c12 => ?_) (fun c12 => ?_)
        · have h13 := h11.1 c12
          refine ev_aload_n dX8_horsesBy_42 0 rfl (by decide) ?_
          refine ev_getR' fl_8_225 rfl kd_82 rf_82_45 dX8_horsesBy_43 ?_
          refine ev_iload_n dX8_horsesBy_46 1 rfl ?_
          have p15 := h13.1
          have h16 := h13.2
          refine ev_iaload' (v := (μ 109 x1.toNatClampNeg)) kd_109 ln_109 p15 rfl dX8_horsesBy_47 ?_
          refine ev_iload_n dX8_horsesBy_48 2 rfl ?_
          refine ev_icmp_eq (tgt := 55) dX8_horsesBy_49 rfl (fun c17 => ?_) (fun c17 => ?_)
          · have h18 := h16.1 c17
            refine ev_iconst (v := 0) dX8_horsesBy_55 rfl ?_
            refine ev_istore (lv' := [(0, .ref 82), (1, .int x1), (2, .int x2), (3, .int x3), (4, .int x4), (5, .int 0)]) dX8_horsesBy_56 (by decide) [1, 2, 3, 4, 5, 0] rfl ?_
            refine ev_iconst (v := 0) dX8_horsesBy_58 rfl ?_
            refine ev_istore (lv' := [(0, .ref 82), (1, .int x1), (2, .int x2), (3, .int x3), (4, .int x4), (5, .int 0), (6, .int 0)]) dX8_horsesBy_59 (by decide) [1, 2, 3, 4, 5, 6, 0] rfl ?_
            refine EvW.less [0, 1, 3, 4, 5, 6] (lv' := [(0, .ref 82), (1, .int x1), (3, .int x3), (4, .int x4), (5, .int 0), (6, .int 0)]) rfl ?_
            exact h18
          · have h19 := h16.2 c17
            refine ev_bipush (v := (-13)) dX8_horsesBy_52 rfl ?_
            exact ev_ireturn dX8_horsesBy_54 rfl True.intro rfl rfl ⟨rfl, h19⟩
        · have h14 := h11.2 c12
          refine ev_bipush (v := (-11)) dX8_horsesBy_39 rfl ?_
          exact ev_ireturn dX8_horsesBy_41 rfl True.intro rfl rfl ⟨rfl, h14⟩
      · have h9 := h6.2 c7
        refine ev_bipush (v := (-2)) dX8_horsesBy_27 rfl ?_
        exact ev_ireturn dX8_horsesBy_29 rfl True.intro rfl rfl ⟨rfl, h9⟩
theorem sg_X8_horsesBy_61 {G : GW} {K : Option Value → Mem → Prop} {μ : Mem} {α : Mem} (hf : WF α) {x1 x3 x4 x5 x6 : Int32}  (h : ((x4 ≤ x6) → K (some (.int x5)) μ) ∧ ((¬ (x4 ≤ x6)) → (((lg_cmp ((Int32.toInt64 x3) + ((4 : Int64) * (Int32.toInt64 x6))) (0 : Int64)) < 0) → K (some (.int (-12))) μ) ∧ ((¬ ((lg_cmp ((Int32.toInt64 x3) + ((4 : Int64) * (Int32.toInt64 x6))) (0 : Int64)) < 0)) → (vp_in x1 4) ∧ (((lg_cmp (((Int32.toInt64 x3) + ((4 : Int64) * (Int32.toInt64 x6))) + (3 : Int64)) (Int32.toInt64 (μ 110 x1.toNatClampNeg))) < 0) → ∀ y12 : Int32, y12 = ((40 * x1) + (Int64.toInt32 ((Int32.toInt64 x3) + ((4 : Int64) * (Int32.toInt64 x6))))) → (vp_in y12 160) ∧ (vp_in (y12 + 1) 160) ∧ (vp_in (y12 + 2) 160) ∧ (vp_in (y12 + 3) 160) ∧ (VM α μ) ∧ ∀ (z24 : Int32) (μ25 : Mem), (z24 = sp_horse α (μ 111 y12.toNatClampNeg) (μ 111 (y12 + 1).toNatClampNeg) (μ 111 (y12 + 2).toNatClampNeg) (μ 111 (y12 + 3).toNatClampNeg) ∧ VM (sq_horse α (μ 111 y12.toNatClampNeg) (μ 111 (y12 + 1).toNatClampNeg) (μ 111 (y12 + 2).toNatClampNeg) (μ 111 (y12 + 3).toNatClampNeg)) μ25 ∧ keepX μ μ25) → ((z24 < 0) → Ev2 G mX8_horsesBy 4 61 [(0, .ref 82), (1, .int x1), (3, .int x3), (4, .int x4), (5, .int (x5 + 0)), (6, .int (x6 + 1))] [] μ25 K) ∧ ((¬ (z24 < 0)) → Ev2 G mX8_horsesBy 4 61 [(0, .ref 82), (1, .int x1), (3, .int x3), (4, .int x4), (5, .int (x5 + 1)), (6, .int (x6 + 1))] [] μ25 K)) ∧ ((¬ ((lg_cmp (((Int32.toInt64 x3) + ((4 : Int64) * (Int32.toInt64 x6))) + (3 : Int64)) (Int32.toInt64 (μ 110 x1.toNatClampNeg))) < 0)) → K (some (.int (-12))) μ)))) : Ev2 G mX8_horsesBy 4 61 [(0, .ref 82), (1, .int x1), (3, .int x3), (4, .int x4), (5, .int x5), (6, .int x6)] [] μ K := by
  refine ev_iload dX8_horsesBy_61 5 rfl ?_
  refine ev_iload dX8_horsesBy_63 3 rfl ?_
  refine ev_icmp_ge (tgt := 174) dX8_horsesBy_65 rfl (fun c1 => ?_) (fun c1 => ?_)
  · have h2 := h.1 c1
    refine ev_iload dX8_horsesBy_174 4 rfl ?_
    exact ev_ireturn dX8_horsesBy_176 rfl True.intro rfl rfl ⟨rfl, h2⟩
  · have h3 := h.2 c1
    refine ev_iload_n dX8_horsesBy_68 2 rfl ?_
    refine ev_i2l dX8_horsesBy_69 ?_
    refine ev_ldc2 dX8_horsesBy_70 co_8_327 ?_
    refine ev_iload dX8_horsesBy_73 5 rfl ?_
    refine ev_i2l dX8_horsesBy_75 ?_
    refine ev_lmul dX8_horsesBy_76 ?_
    refine ev_ladd dX8_horsesBy_77 ?_
    refine ev_lstore (lv' := [(0, .ref 82), (1, .int x1), (3, .int x3), (4, .int x4), (5, .int x5), (6, .int x6), (7, .long ((Int32.toInt64 x3) + ((4 : Int64) * (Int32.toInt64 x6))))]) dX8_horsesBy_78 (by decide) [1, 2, 3, 4, 5, 6, 0] rfl ?_
    refine ev_lload dX8_horsesBy_80 6 rfl ?_
    refine ev_lconst (v := (0 : Int64)) dX8_horsesBy_82 rfl ?_
    refine ev_lcmp dX8_horsesBy_83 ?_
    refine ev_if_lt (tgt := 104) dX8_horsesBy_84 rfl (fun c4 => ?_) (fun c4 => ?_)
    · have h5 := h3.1 c4
      refine ev_bipush (v := (-12)) dX8_horsesBy_104 rfl ?_
      exact ev_ireturn dX8_horsesBy_106 rfl True.intro rfl rfl ⟨rfl, h5⟩
    · have h6 := h3.2 c4
      refine ev_lload dX8_horsesBy_87 6 rfl ?_
      refine ev_ldc2 dX8_horsesBy_89 co_8_329 ?_
      refine ev_ladd dX8_horsesBy_92 ?_
      refine ev_aload_n dX8_horsesBy_93 0 rfl (by decide) ?_
      refine ev_getR' fl_8_228 rfl kd_82 rf_82_46 dX8_horsesBy_94 ?_
      refine ev_iload_n dX8_horsesBy_97 1 rfl ?_
      have p7 := h6.1
      have h8 := h6.2
      refine ev_iaload' (v := (μ 110 x1.toNatClampNeg)) kd_110 ln_110 p7 rfl dX8_horsesBy_98 ?_
      refine ev_i2l dX8_horsesBy_99 ?_
      refine ev_lcmp dX8_horsesBy_100 ?_
      refine ev_if_lt (tgt := 107) dX8_horsesBy_101 rfl (fun c9 => ?_) (fun c9 => ?_)
      · have h10 := h8.1 c9
        refine ev_bipush (v := 40) dX8_horsesBy_107 rfl ?_
        refine ev_iload_n dX8_horsesBy_109 1 rfl ?_
        refine ev_imul dX8_horsesBy_110 ?_
        refine ev_lload dX8_horsesBy_111 6 rfl ?_
        refine ev_l2i dX8_horsesBy_113 ?_
        refine ev_iadd dX8_horsesBy_114 ?_
        refine ev_top (fun y12 ey12 => ?_)
        have h13 := h10 y12 ey12
        refine ev_istore (lv' := [(0, .ref 82), (1, .int x1), (3, .int x3), (4, .int x4), (5, .int x5), (6, .int x6), (7, .long ((Int32.toInt64 x3) + ((4 : Int64) * (Int32.toInt64 x6)))), (9, .int y12)]) dX8_horsesBy_115 (by decide) [1, 2, 3, 4, 5, 6, 7, 0] rfl ?_
        refine ev_iload dX8_horsesBy_117 4 rfl ?_
        refine ev_aload_n dX8_horsesBy_119 0 rfl (by decide) ?_
        refine ev_aload_n dX8_horsesBy_120 0 rfl (by decide) ?_
        refine ev_getR' fl_8_231 rfl kd_82 rf_82_47 dX8_horsesBy_121 ?_
        refine ev_iload dX8_horsesBy_124 7 rfl ?_
        have p14 := h13.1
        have h15 := h13.2
        refine ev_iaload' (v := (μ 111 y12.toNatClampNeg)) kd_111 ln_111 p14 rfl dX8_horsesBy_126 ?_
        refine ev_aload_n dX8_horsesBy_127 0 rfl (by decide) ?_
        refine ev_getR' fl_8_231 rfl kd_82 rf_82_47 dX8_horsesBy_128 ?_
        refine ev_iload dX8_horsesBy_131 7 rfl ?_
        refine ev_iconst (v := 1) dX8_horsesBy_133 rfl ?_
        refine ev_iadd dX8_horsesBy_134 ?_
        have p16 := h15.1
        have h17 := h15.2
        refine ev_iaload' (v := (μ 111 (y12 + 1).toNatClampNeg)) kd_111 ln_111 p16 rfl dX8_horsesBy_135 ?_
        refine ev_aload_n dX8_horsesBy_136 0 rfl (by decide) ?_
        refine ev_getR' fl_8_231 rfl kd_82 rf_82_47 dX8_horsesBy_137 ?_
        refine ev_iload dX8_horsesBy_140 7 rfl ?_
        refine ev_iconst (v := 2) dX8_horsesBy_142 rfl ?_
        refine ev_iadd dX8_horsesBy_143 ?_
        have p18 := h17.1
        have h19 := h17.2
        refine ev_iaload' (v := (μ 111 (y12 + 2).toNatClampNeg)) kd_111 ln_111 p18 rfl dX8_horsesBy_144 ?_
        refine ev_aload_n dX8_horsesBy_145 0 rfl (by decide) ?_
        refine ev_getR' fl_8_231 rfl kd_82 rf_82_47 dX8_horsesBy_146 ?_
        refine ev_iload dX8_horsesBy_149 7 rfl ?_
        refine ev_iconst (v := 3) dX8_horsesBy_151 rfl ?_
        refine ev_iadd dX8_horsesBy_152 ?_
        have p20 := h19.1
        have h21 := h19.2
        refine ev_iaload' (v := (μ 111 (y12 + 3).toNatClampNeg)) kd_111 ln_111 p20 rfl dX8_horsesBy_153 ?_
        have p22 := h21.1
        have h23 := h21.2
        refine e2_callVr (Rl := fun z24 μ25 => z24 = sp_horse α (μ 111 y12.toNatClampNeg) (μ 111 (y12 + 1).toNatClampNeg) (μ 111 (y12 + 2).toNatClampNeg) (μ 111 (y12 + 3).toNatClampNeg) ∧ VM (sq_horse α (μ 111 y12.toNatClampNeg) (μ 111 (y12 + 1).toNatClampNeg) (μ 111 (y12 + 2).toNatClampNeg) (μ 111 (y12 + 3).toNatClampNeg)) μ25 ∧ keepX μ μ25) (a := 82) (as := [.int (μ 111 y12.toNatClampNeg), .int (μ 111 (y12 + 1).toNatClampNeg), .int (μ 111 (y12 + 2).toNatClampNeg), .int (μ 111 (y12 + 3).toNatClampNeg)]) (st := [.int x5]) ok_X8_horse vi_X8_horse ml_8_331 hcl_8 kd_82 dX8_horsesBy_154 rfl rfl (Nat.le_of_ble_eq_true rfl) (Nat.le_of_ble_eq_true rfl) (by decide) (ct_X8_horse hf ((μ 111 y12.toNatClampNeg)) ((μ 111 (y12 + 1).toNatClampNeg)) ((μ 111 (y12 + 2).toNatClampNeg)) ((μ 111 (y12 + 3).toNatClampNeg)) μ p22) (fun z24 μ25 r26 => ?_)
        have h27 := h23 z24 μ25 r26
        refine ev_if_lt (tgt := 164) dX8_horsesBy_157 rfl (fun c28 => ?_) (fun c28 => ?_)
        · have h29 := h27.1 c28
          refine ev_iconst (v := 0) dX8_horsesBy_164 rfl ?_
          refine ev_iadd dX8_horsesBy_165 ?_
          refine ev_istore (lv' := [(0, .ref 82), (1, .int x1), (3, .int x3), (4, .int x4), (5, .int (x5 + 0)), (6, .int x6), (7, .long ((Int32.toInt64 x3) + ((4 : Int64) * (Int32.toInt64 x6)))), (9, .int y12)]) dX8_horsesBy_166 (by decide) [1, 2, 3, 4, 0, 5, 6, 7] rfl ?_
          refine ev_iinc (v := (x6 + 1)) (lv' := [(0, .ref 82), (1, .int x1), (3, .int x3), (4, .int x4), (5, .int (x5 + 0)), (6, .int (x6 + 1)), (7, .long ((Int32.toInt64 x3) + ((4 : Int64) * (Int32.toInt64 x6)))), (9, .int y12)]) dX8_horsesBy_168 5 rfl rfl (by decide) [1, 2, 3, 4, 5, 0, 6, 7] rfl ?_
          refine ev_goto (tgt := 61) dX8_horsesBy_171 rfl ?_
          refine EvW.less [0, 1, 2, 3, 4, 5] (lv' := [(0, .ref 82), (1, .int x1), (3, .int x3), (4, .int x4), (5, .int (x5 + 0)), (6, .int (x6 + 1))]) rfl ?_
          exact h29
        · have h30 := h27.2 c28
          refine ev_iconst (v := 1) dX8_horsesBy_160 rfl ?_
          refine ev_goto (tgt := 165) dX8_horsesBy_161 rfl ?_
          refine ev_iadd dX8_horsesBy_165 ?_
          refine ev_istore (lv' := [(0, .ref 82), (1, .int x1), (3, .int x3), (4, .int x4), (5, .int (x5 + 1)), (6, .int x6), (7, .long ((Int32.toInt64 x3) + ((4 : Int64) * (Int32.toInt64 x6)))), (9, .int y12)]) dX8_horsesBy_166 (by decide) [1, 2, 3, 4, 0, 5, 6, 7] rfl ?_
          refine ev_iinc (v := (x6 + 1)) (lv' := [(0, .ref 82), (1, .int x1), (3, .int x3), (4, .int x4), (5, .int (x5 + 1)), (6, .int (x6 + 1)), (7, .long ((Int32.toInt64 x3) + ((4 : Int64) * (Int32.toInt64 x6)))), (9, .int y12)]) dX8_horsesBy_168 5 rfl rfl (by decide) [1, 2, 3, 4, 5, 0, 6, 7] rfl ?_
          refine ev_goto (tgt := 61) dX8_horsesBy_171 rfl ?_
          refine EvW.less [0, 1, 2, 3, 4, 5] (lv' := [(0, .ref 82), (1, .int x1), (3, .int x3), (4, .int x4), (5, .int (x5 + 1)), (6, .int (x6 + 1))]) rfl ?_
          exact h30
      · have h11 := h8.2 c9
        refine ev_bipush (v := (-12)) dX8_horsesBy_104 rfl ?_
        exact ev_ireturn dX8_horsesBy_106 rfl True.intro rfl rfl ⟨rfl, h11⟩
theorem l_3264 {x : Int32} : (Int32.toInt64 x).toInt = x.toInt := Int32.toInt_toInt64 x
theorem hb_long {x : Int32} {k : Nat} (hk : k ≤ 7) : (Int32.toInt64 x + (4 : Int64) * Int32.toInt64 (nI k)).toInt = x.toInt + 4 * k := by
  have h1 := Int32.toInt_lt x
  have h2 := Int32.le_toInt x
  have e4 : (4 : Int64).toInt = 4 := by decide
  have em : ((4 : Int64) * Int32.toInt64 (nI k)).toInt = 4 * k := by
    rw [Int64.toInt_mul, e4, l_3264, nI_toInt (by omega), l_bmod (by omega)]
  rw [Int64.toInt_add, em, l_3264, l_bmod (by omega)]
theorem lcmp_lt {x y : Int64} : lg_cmp x y < 0 ↔ x.toInt < y.toInt := by
  unfold lg_cmp
  split
  · rename_i c
    have := Int64.lt_iff_toInt_lt.mp c
    exact ⟨fun q => absurd q (by decide), fun q => by omega⟩
  · split
    · rename_i c d
      exact ⟨fun q => absurd q (by decide), fun q => by rw [d] at q; omega⟩
    · rename_i c d
      refine ⟨fun _ => ?_, fun _ => by decide⟩
      have h1 : ¬ y.toInt < x.toInt := fun q => c (Int64.lt_iff_toInt_lt.mpr q)
      have h2 : ¬ x.toInt = y.toInt := fun q => d (Int64.toInt_inj.mp q)
      omega
theorem i3_add {n : Int64} (h : n.toInt < 2 ^ 62) (h2 : 0 ≤ n.toInt) : (n + (3 : Int64)).toInt = n.toInt + 3 := by
  have e3 : (3 : Int64).toInt = 3 := by decide
  rw [Int64.toInt_add, e3, l_bmod (by omega)]
theorem numA_at {α : Mem} {s z k : Nat} (hz : z ≤ 40) (ez : α 15 s = nI z) (hk : k < z) : numA α s (nI k) = α 16 (40 * s + k) := by
  unfold numA
  rw [ez, holdsB_in hz, if_pos (inB_of_lt (by omega) hk), ix_nI (by omega)]
theorem lp_X8_horsesBy {G : GW} {μ0 : Mem} {s N : Nat} (hs : s < 4) (hN : N ≤ 7) {x3 : Int32} : ∀ j i (next came : Int32) (α μ : Mem), i + j = N → (next.toInt = x3.toInt + 4 * i) → WF α → VM α μ → keepX μ0 μ → Ev2 G mX8_horsesBy 4 61 [(0, .ref 82), (1, .int (nI s)), (3, .int x3), (4, .int (nI N)), (5, .int came), (6, .int (nI i))] [] μ (fun v μ' => v = some (.int (hbA s j next came α).1) ∧ VM (hbA s j next came α).2 μ' ∧ keepX μ0 μ') := by
  have vs : vp_in (nI s) 4 := vp_nI hs (by omega)
  intro j
  induction j with
  | zero =>
    intro i next came α μ hi hn hf h hm
    obtain rfl : i = N := hi
    exact sg_X8_horsesBy_61 hf ⟨fun _ => ⟨rfl, h, hm⟩, fun c => absurd (Int32.le_refl _) c⟩
  | succ j ih =>
    intro i next came α μ hi hn hf h hm
    obtain ⟨e1, e2, e3⟩ := h.sh hs
    obtain ⟨-, z, hz, ez⟩ := hf.2.2.2.2.2.2.2 s hs
    have eL := hb_long (x := x3) (k := i) (by omega)
    rw [← hn] at eL
    have b1 := Int32.toInt_lt next
    have b2 := Int32.le_toInt next
    have e0 : (0 : Int64).toInt = 0 := by decide
    have e04 : (4 : Int32).toInt = 4 := by decide
    have e00 : (0 : Int32).toInt = 0 := by decide
    have hB : holdsB (nI z) next 4 = true ↔ (0 ≤ next.toInt ∧ next.toInt + 3 < z) := by
      rw [holdsB_iff hz, i_lt, i_lt, i_lt, e04, e00]
      by_cases c : next.toInt < 0
      · exact ⟨fun q => absurd c q.2.1, fun q => absurd q.1 (by omega)⟩
      · have : (nI z - next).toInt = z - next.toInt := by
          rw [i_sub (by rw [nI_toInt (by omega)]; omega), nI_toInt (by omega)]
        rw [this]
        omega
    have no : ¬ (0 ≤ next.toInt ∧ next.toInt + 3 < z) → some (Value.int (-12)) = some (Value.int (hbA s (j + 1) next came α).1) ∧ VM (hbA s (j + 1) next came α).2 μ ∧ keepX μ0 μ := fun q => by
      unfold hbA
      rw [ez, if_neg (fun w => q (hB.mp w))]
      exact ⟨rfl, h, hm⟩
    refine sg_X8_horsesBy_61 hf ⟨fun c => absurd c (nI_ge (by omega) (by omega)), fun _ => ⟨fun c => ?_, fun c => ⟨vs, fun d => ?_, fun d => ?_⟩⟩⟩
    · have c := lcmp_lt.mp c
      rw [eL, e0] at c
      exact no (by omega)
    · have c : ¬ next.toInt < 0 := fun q => c (lcmp_lt.mpr (by rw [eL, e0]; exact q))
      have d := lcmp_lt.mp d
      rw [ix_nI (by omega), e2, ez, i3_add (by rw [eL]; omega) (by rw [eL]; omega), eL, l_3264, nI_toInt (by omega)] at d
      intro y hy
      obtain ⟨k, hk, ek⟩ : ∃ k : Nat, next.toInt = k ∧ next = nI k := ⟨next.toInt.toNat, by omega, by
        rw [i_eq, nI_toInt (by omega)]
        omega⟩
      have e32 : Int64.toInt32 (Int32.toInt64 x3 + (4 : Int64) * Int32.toInt64 (nI i)) = nI k := by
        rw [i_eq, nI_toInt (by omega), Int64.toInt_toInt32, eL, hk, i_bmod (by omega)]
      have ey : y = nI (40 * s + k) := by
        rw [hy, e32, show (40 : Int32) = nI 40 from rfl, pk_mul, nI_add]
      have y1 : y + 1 = nI (40 * s + k + 1) := by rw [ey, nI_1]
      have y2 : y + 2 = nI (40 * s + k + 2) := by rw [ey, show (2 : Int32) = nI 2 from rfl, nI_add]
      have y3 : y + 3 = nI (40 * s + k + 3) := by rw [ey, show (3 : Int32) = nI 3 from rfl, nI_add]
      have n1 : next + 1 = nI (k + 1) := by rw [ek, nI_1]
      have n2 : next + 2 = nI (k + 2) := by rw [ek, show (2 : Int32) = nI 2 from rfl, nI_add]
      have n3 : next + 3 = nI (k + 3) := by rw [ek, show (3 : Int32) = nI 3 from rfl, nI_add]
      have n4 : next + 4 = nI (k + 4) := by rw [ek, show (4 : Int32) = nI 4 from rfl, nI_add]
      rw [y1, y2, y3, ey, ix_nI (by omega), ix_nI (by omega), ix_nI (by omega), ix_nI (by omega)]
      rw [e3 k (by omega), Nat.add_assoc (40 * s) k 1, Nat.add_assoc (40 * s) k 2, Nat.add_assoc (40 * s) k 3, e3 (k + 1) (by omega), e3 (k + 2) (by omega), e3 (k + 3) (by omega)]
      refine ⟨vp_nI (by omega) (by omega), vp_nI (by omega) (by omega), vp_nI (by omega) (by omega), vp_nI (by omega) (by omega), h, fun x ν hx => ?_⟩
      obtain ⟨ex, h1, k1⟩ := hx
      have eh : hbA s (j + 1) next came α = if sp_horse α (α 16 (40 * s + k)) (α 16 (40 * s + (k + 1))) (α 16 (40 * s + (k + 2))) (α 16 (40 * s + (k + 3))) < 0 then hbA s j (next + 4) (came + 0) (sq_horse α (α 16 (40 * s + k)) (α 16 (40 * s + (k + 1))) (α 16 (40 * s + (k + 2))) (α 16 (40 * s + (k + 3)))) else hbA s j (next + 4) (came + 1) (sq_horse α (α 16 (40 * s + k)) (α 16 (40 * s + (k + 1))) (α 16 (40 * s + (k + 2))) (α 16 (40 * s + (k + 3)))) := by
        have hb : holdsB (α 15 s) next 4 = true := by rw [ez]; exact hB.mpr (by omega)
        have : hbA s (j + 1) next came α = if holdsB (α 15 s) next 4 = true then (if sp_horse α (numA α s next) (numA α s (next + 1)) (numA α s (next + 2)) (numA α s (next + 3)) < 0 then hbA s j (next + 4) (came + 0) (sq_horse α (numA α s next) (numA α s (next + 1)) (numA α s (next + 2)) (numA α s (next + 3))) else hbA s j (next + 4) (came + 1) (sq_horse α (numA α s next) (numA α s (next + 1)) (numA α s (next + 2)) (numA α s (next + 3)))) else (-12, α) := by rw [hbA]
        rw [this, if_pos hb, n1, n2, n3, ek, numA_at hz ez (by omega), numA_at hz ez (by omega), numA_at hz ez (by omega), numA_at hz ez (by omega)]
      rw [eh, ex]
      have hn4 : (next + 4).toInt = x3.toInt + 4 * ((i + 1 : Nat) : Int) := by
        rw [n4, nI_toInt (by omega)]
        omega
      have hw := wf_horse hf (α 16 (40 * s + k)) (α 16 (40 * s + (k + 1))) (α 16 (40 * s + (k + 2))) (α 16 (40 * s + (k + 3)))
      refine ⟨fun c => ?_, fun c => ?_⟩
      · rw [if_pos c]
        have hh := ih (i + 1) (next + 4) (came + 0) _ ν (by omega) hn4 hw h1 (hm.tr k1)
        rw [← nI_1] at hh
        exact hh
      · rw [if_neg c]
        have hh := ih (i + 1) (next + 4) (came + 1) _ ν (by omega) hn4 hw h1 (hm.tr k1)
        rw [← nI_1] at hh
        exact hh
    · have c : ¬ next.toInt < 0 := fun q => c (lcmp_lt.mpr (by rw [eL, e0]; exact q))
      have d : ¬ next.toInt + 3 < (z : Int) := fun q => d (lcmp_lt.mpr (by
        rw [ix_nI (by omega), e2, ez, i3_add (by rw [eL]; omega) (by rw [eL]; omega), eL, l_3264, nI_toInt (by omega)]
        exact q))
      exact no (fun q => d q.2)
theorem pb_X8_horsesBy {G : GW} {α μ : Mem} (hf : WF α) (h : VM α μ) (x1 x2 x3 x4 : Int32) : pubM G mX8_horsesBy 4 [(0, .ref 82), (1, .int x1), (2, .int x2), (3, .int x3), (4, .int x4)] α μ (.int (sp_horsesBy α x1 x2 x3 x4)) (sq_horsesBy α x1 x2 x3 x4) := by
  have hk := keepX.rf μ
  have no : byB x1 x2 x4 = false → some (Value.int (-2)) = some (Value.int (sp_horsesBy α x1 x2 x3 x4)) ∧ VM (sq_horsesBy α x1 x2 x3 x4) μ ∧ keepX μ μ := fun q => by
    unfold sp_horsesBy sq_horsesBy
    rw [if_neg (by rw [q]; decide), if_neg (by rw [q]; simp)]
    exact ⟨rfl, h, hk⟩
  refine sg_X8_horsesBy_0 hf ⟨fun c => no (by unfold byB; rw [c]; rfl), fun c1 => ⟨fun c => no (by unfold byB; rw [c1, c]; rfl), fun c2 => ⟨fun c3 => ?_, fun c => no (by unfold byB; rw [c1, c2, c]; rfl)⟩⟩⟩
  have ca : byB x1 x2 x4 = true := by
    unfold byB
    rw [c1, c2, c3]
    rfl
  obtain ⟨s, hs, rfl⟩ := inB_s c1
  obtain ⟨N, hN, rfl⟩ := inB_nI (m := 7) (by omega) c3
  obtain ⟨e1, e2, -⟩ := h.sh hs
  unfold sp_horsesBy sq_horsesBy
  rw [if_pos ca, ix_nI (i := s) (by omega), ix_nI (i := N) (by omega), e1, sort_of hf hs]
  have vs : vp_in (nI s) 4 := vp_nI hs (by omega)
  refine ⟨vs, fun d => ⟨vs, fun e => ?_, fun e => ?_⟩, fun d => ?_⟩
  · rw [if_neg d, if_pos e, if_pos ⟨ca, d, e⟩]
    exact lp_X8_horsesBy hs hN N 0 x3 0 α μ (Nat.zero_add _) (by omega) hf h hk
  · rw [if_neg d, if_neg e, if_neg (fun q => e q.2.2)]
    exact ⟨rfl, h, hk⟩
  · have d := Decidable.not_not.mp d
    rw [if_pos d, if_neg (fun q => q.2.1 d)]
    exact ⟨rfl, h, hk⟩
