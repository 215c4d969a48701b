/-! ===== the class: the way, traced back ===== -/
/-- the places of the way to a place, from the last one back -/
def backL (σ : Mem) : Nat → Nat → List Nat
  | 0, _ => []
  | f + 1, p => if σ 1 p = -1 then [] else p :: backL σ f (σ 2 p).toNatClampNeg
def wayHs (σ : Mem) (acc : Int32) (l : List Nat) : Int32 := l.foldl (fun acc p => if σ 1 p = 7 then acc else acc ||| (1 <<< (σ 1 p &&& 31))) acc
def wayWs (σ : Mem) (acc : Int32) (l : List Nat) : Int32 := l.foldl (fun acc p => if σ 1 p = 7 then acc + (σ 0 p - σ 0 (σ 2 p).toNatClampNeg) else acc) acc
def pieceV (σ : Mem) (p : Nat) : Int32 := 10 * σ 1 p + nI p
/-- from where one came is a place -/
def chainOK (σ : Mem) : Prop := ∀ p, p < 7 → ¬ σ 1 p = -1 → ∃ q, q < 7 ∧ σ 2 p = nI q
def traceR (μ : Mem) (σ : Mem) (to : Nat) (ν : Mem) : Prop := (∀ a, a ≠ 26 → a ≠ 31 → ν a = μ a) ∧ (∀ k, ¬ (5 ≤ k ∧ k ≤ 7) → ν 26 k = μ 26 k) ∧ ν 26 5 = nI (backL σ 7 to).length ∧ ν 26 6 = wayHs σ 0 (backL σ 7 to) ∧ ν 26 7 = wayWs σ 0 (backL σ 7 to) ∧ ∀ i p, (backL σ 7 to)[i]? = some p → ν 31 i = pieceV σ p
theorem sg_X3_traceTo_0 {G : GW} {K : Option Value → Mem → Prop} {μ : Mem} {x1 : Int32}  (h : Ev2 G mX3_traceTo 1 19 [(0, .ref 26), (2, .int x1), (3, .int 0)] [] (mset (mset (mset μ 26 5 0) 26 6 0) 26 7 0) K) : Ev2 G mX3_traceTo 1 0 [(0, .ref 26), (1, .int x1)] [] μ K := by
  refine ev_aload_n dX3_traceTo_0 0 rfl (by decide) ?_
  refine ev_iconst (v := 0) dX3_traceTo_1 rfl ?_
  refine ev_putI fl_3_28 ⟨rfl, rfl, rfl⟩ (fun r hr => by cases hr; rfl) kd_26 dX3_traceTo_2 ?_
  refine ev_aload_n dX3_traceTo_5 0 rfl (by decide) ?_
  refine ev_iconst (v := 0) dX3_traceTo_6 rfl ?_
  refine ev_putI fl_3_32 ⟨rfl, rfl, rfl⟩ (fun r hr => by cases hr; rfl) kd_26 dX3_traceTo_7 ?_
  refine ev_aload_n dX3_traceTo_10 0 rfl (by decide) ?_
  refine ev_iconst (v := 0) dX3_traceTo_11 rfl ?_
  refine ev_putI fl_3_35 ⟨rfl, rfl, rfl⟩ (fun r hr => by cases hr; rfl) kd_26 dX3_traceTo_12 ?_
  refine ev_iload_n dX3_traceTo_15 1 rfl ?_
  refine ev_istore_n (lv' := [(0, .ref 26), (1, .int x1), (2, .int x1)]) dX3_traceTo_16 (by decide) [1, 2, 0] rfl ?_
  refine ev_iconst (v := 0) dX3_traceTo_17 rfl ?_
  refine ev_istore_n (lv' := [(0, .ref 26), (1, .int x1), (2, .int x1), (3, .int 0)]) dX3_traceTo_18 (by decide) [1, 2, 3, 0] rfl ?_
  refine EvW.less [0, 2, 3] (lv' := [(0, .ref 26), (2, .int x1), (3, .int 0)]) rfl ?_
  exact h
theorem sg_X3_traceTo_19 {G : GW} {K : Option Value → Mem → Prop} {μ : Mem} {x2 x3 : Int32}  (h : ((7 ≤ x3) → K none μ) ∧ ((¬ (7 ≤ x3)) → (vp_in x2 7) ∧ (((μ 28 x2.toNatClampNeg) = (-1)) → K none μ) ∧ ((¬ ((μ 28 x2.toNatClampNeg) = (-1))) → (vp_in x2 7) ∧ (vp_in x3 7) ∧ (vp_in x2 7) ∧ ((¬ (μ 28 x2.toNatClampNeg) = 7) → (vp_in x2 7) ∧ (vp_in x2 7) ∧ Ev2 G mX3_traceTo 1 19 [(0, .ref 26), (2, .int (μ 29 x2.toNatClampNeg)), (3, .int (x3 + 1))] [] (mset (mset (mset μ 31 x3.toNatClampNeg ((10 * (μ 28 x2.toNatClampNeg)) + x2)) 26 5 ((μ 26 5) + 1)) 26 6 ((μ 26 6) ||| ((1 : Int32) <<< ((μ 28 x2.toNatClampNeg) &&& 31)))) K) ∧ (((μ 28 x2.toNatClampNeg) = 7) → (vp_in x2 7) ∧ (vp_in x2 7) ∧ (vp_in (μ 29 x2.toNatClampNeg) 7) ∧ (vp_in x2 7) ∧ Ev2 G mX3_traceTo 1 19 [(0, .ref 26), (2, .int (μ 29 x2.toNatClampNeg)), (3, .int (x3 + 1))] [] (mset (mset (mset μ 31 x3.toNatClampNeg ((10 * (μ 28 x2.toNatClampNeg)) + x2)) 26 5 ((μ 26 5) + 1)) 26 7 ((μ 26 7) + ((μ 27 x2.toNatClampNeg) - (μ 27 (μ 29 x2.toNatClampNeg).toNatClampNeg)))) K)))) : Ev2 G mX3_traceTo 1 19 [(0, .ref 26), (2, .int x2), (3, .int x3)] [] μ K := by
  refine ev_iload_n dX3_traceTo_19 2 rfl ?_
  refine ev_bipush (v := 7) dX3_traceTo_20 rfl ?_
  refine ev_icmp_ge (tgt := 133) dX3_traceTo_22 rfl (fun c1 => ?_) (fun c1 => ?_)
  · have h2 := h.1 c1
    exact ev_return dX3_traceTo_133 rfl rfl rfl ⟨rfl, h2⟩
  · have h3 := h.2 c1
    refine ev_aload_n dX3_traceTo_25 0 rfl (by decide) ?_
    refine ev_getR' fl_3_15 rfl kd_26 rf_26_1 dX3_traceTo_26 ?_
    refine ev_iload_n dX3_traceTo_29 1 rfl ?_
    have p4 := h3.1
    have h5 := h3.2
    refine ev_iaload' (v := (μ 28 x2.toNatClampNeg)) kd_28 ln_28 p4 rfl dX3_traceTo_30 ?_
    refine ev_iconst (v := (-1)) dX3_traceTo_31 rfl ?_
    refine ev_icmp_eq (tgt := 133) dX3_traceTo_32 rfl (fun c6 => ?_) (fun c6 => ?_)
    · have h7 := h5.1 c6
      exact ev_return dX3_traceTo_133 rfl rfl rfl ⟨rfl, h7⟩
    · have h8 := h5.2 c6
      refine ev_aload_n dX3_traceTo_35 0 rfl (by decide) ?_
      refine ev_getR' fl_3_25 rfl kd_26 rf_26_4 dX3_traceTo_36 ?_
      refine ev_iload_n dX3_traceTo_39 2 rfl ?_
      refine ev_bipush (v := 10) dX3_traceTo_40 rfl ?_
      refine ev_aload_n dX3_traceTo_42 0 rfl (by decide) ?_
      refine ev_getR' fl_3_15 rfl kd_26 rf_26_1 dX3_traceTo_43 ?_
      refine ev_iload_n dX3_traceTo_46 1 rfl ?_
      have p9 := h8.1
      have h10 := h8.2
      refine ev_iaload' (v := (μ 28 x2.toNatClampNeg)) kd_28 ln_28 p9 rfl dX3_traceTo_47 ?_
      refine ev_imul dX3_traceTo_48 ?_
      refine ev_iload_n dX3_traceTo_49 1 rfl ?_
      refine ev_iadd dX3_traceTo_50 ?_
      have p11 := h10.1
      have h12 := h10.2
      refine ev_iastore' (j := x3.toNatClampNeg) kd_31 ln_31 p11 rfl dX3_traceTo_51 ?_
      refine ev_aload_n dX3_traceTo_52 0 rfl (by decide) ?_
      refine ev_dup dX3_traceTo_53 rfl ?_
      refine ev_getI' (v := (μ 26 5)) fl_3_28 rfl kd_26 rfl dX3_traceTo_54 ?_
      refine ev_iconst (v := 1) dX3_traceTo_57 rfl ?_
      refine ev_iadd dX3_traceTo_58 ?_
      refine ev_putI fl_3_28 ⟨rfl, rfl, rfl⟩ (fun r hr => by cases hr; rfl) kd_26 dX3_traceTo_59 ?_
      refine ev_aload_n dX3_traceTo_62 0 rfl (by decide) ?_
      refine ev_getR' fl_3_15 rfl kd_26 rf_26_1 dX3_traceTo_63 ?_
      refine ev_iload_n dX3_traceTo_66 1 rfl ?_
      have p13 := h12.1
      have h14 := h12.2
      refine ev_iaload' (v := (μ 28 x2.toNatClampNeg)) kd_28 ln_28 p13 rfl dX3_traceTo_67 ?_
      refine ev_bipush (v := 7) dX3_traceTo_68 rfl ?_
      refine ev_icmp_ne (tgt := 103) dX3_traceTo_70 rfl (fun c15 => ?_) (fun c15 => ?_)
      · have h16 := h14.1 c15
        refine ev_aload_n dX3_traceTo_103 0 rfl (by decide) ?_
        refine ev_dup dX3_traceTo_104 rfl ?_
        refine ev_getI' (v := (μ 26 6)) fl_3_32 rfl kd_26 rfl dX3_traceTo_105 ?_
        refine ev_iconst (v := 1) dX3_traceTo_108 rfl ?_
        refine ev_aload_n dX3_traceTo_109 0 rfl (by decide) ?_
        refine ev_getR' fl_3_15 rfl kd_26 rf_26_1 dX3_traceTo_110 ?_
        refine ev_iload_n dX3_traceTo_113 1 rfl ?_
        have p18 := h16.1
        have h19 := h16.2
        refine ev_iaload' (v := (μ 28 x2.toNatClampNeg)) kd_28 ln_28 p18 rfl dX3_traceTo_114 ?_
        refine ev_ishl dX3_traceTo_115 ?_
        refine ev_ior dX3_traceTo_116 ?_
        refine ev_putI fl_3_32 ⟨rfl, rfl, rfl⟩ (fun r hr => by cases hr; rfl) kd_26 dX3_traceTo_117 ?_
        refine ev_aload_n dX3_traceTo_120 0 rfl (by decide) ?_
        refine ev_getR' fl_3_18 rfl kd_26 rf_26_2 dX3_traceTo_121 ?_
        refine ev_iload_n dX3_traceTo_124 1 rfl ?_
        have p20 := h19.1
        have h21 := h19.2
        refine ev_iaload' (v := (μ 29 x2.toNatClampNeg)) kd_29 ln_29 p20 rfl dX3_traceTo_125 ?_
        refine ev_istore_n (lv' := [(0, .ref 26), (2, .int (μ 29 x2.toNatClampNeg)), (3, .int x3)]) dX3_traceTo_126 (by decide) [1, 0, 2] rfl ?_
        refine ev_iinc (v := (x3 + 1)) (lv' := [(0, .ref 26), (2, .int (μ 29 x2.toNatClampNeg)), (3, .int (x3 + 1))]) dX3_traceTo_127 2 rfl rfl (by decide) [1, 2, 0] rfl ?_
        refine ev_goto (tgt := 19) dX3_traceTo_130 rfl ?_
        exact h21
      · have h17 := h14.2 c15
        refine ev_aload_n dX3_traceTo_73 0 rfl (by decide) ?_
        refine ev_dup dX3_traceTo_74 rfl ?_
        refine ev_getI' (v := (μ 26 7)) fl_3_35 rfl kd_26 rfl dX3_traceTo_75 ?_
        refine ev_aload_n dX3_traceTo_78 0 rfl (by decide) ?_
        refine ev_getR' fl_3_9 rfl kd_26 rf_26_0 dX3_traceTo_79 ?_
        refine ev_iload_n dX3_traceTo_82 1 rfl ?_
        have p22 := h17.1
        have h23 := h17.2
        refine ev_iaload' (v := (μ 27 x2.toNatClampNeg)) kd_27 ln_27 p22 rfl dX3_traceTo_83 ?_
        refine ev_aload_n dX3_traceTo_84 0 rfl (by decide) ?_
        refine ev_getR' fl_3_9 rfl kd_26 rf_26_0 dX3_traceTo_85 ?_
        refine ev_aload_n dX3_traceTo_88 0 rfl (by decide) ?_
        refine ev_getR' fl_3_18 rfl kd_26 rf_26_2 dX3_traceTo_89 ?_
        refine ev_iload_n dX3_traceTo_92 1 rfl ?_
        have p24 := h23.1
        have h25 := h23.2
        refine ev_iaload' (v := (μ 29 x2.toNatClampNeg)) kd_29 ln_29 p24 rfl dX3_traceTo_93 ?_
        have p26 := h25.1
        have h27 := h25.2
        refine ev_iaload' (v := (μ 27 (μ 29 x2.toNatClampNeg).toNatClampNeg)) kd_27 ln_27 p26 rfl dX3_traceTo_94 ?_
        refine ev_isub dX3_traceTo_95 ?_
        refine ev_iadd dX3_traceTo_96 ?_
        refine ev_putI fl_3_35 ⟨rfl, rfl, rfl⟩ (fun r hr => by cases hr; rfl) kd_26 dX3_traceTo_97 ?_
        refine ev_goto (tgt := 120) dX3_traceTo_100 rfl ?_
        refine ev_aload_n dX3_traceTo_120 0 rfl (by decide) ?_
        refine ev_getR' fl_3_18 rfl kd_26 rf_26_2 dX3_traceTo_121 ?_
        refine ev_iload_n dX3_traceTo_124 1 rfl ?_
        have p28 := h27.1
        have h29 := h27.2
        refine ev_iaload' (v := (μ 29 x2.toNatClampNeg)) kd_29 ln_29 p28 rfl dX3_traceTo_125 ?_
        refine ev_istore_n (lv' := [(0, .ref 26), (2, .int (μ 29 x2.toNatClampNeg)), (3, .int x3)]) dX3_traceTo_126 (by decide) [1, 0, 2] rfl ?_
        refine ev_iinc (v := (x3 + 1)) (lv' := [(0, .ref 26), (2, .int (μ 29 x2.toNatClampNeg)), (3, .int (x3 + 1))]) dX3_traceTo_127 2 rfl rfl (by decide) [1, 2, 0] rfl ?_
        refine ev_goto (tgt := 19) dX3_traceTo_130 rfl ?_
        exact h29
theorem lp_X3_traceTo {G : GW} (σ : Mem) (hc : chainOK σ) : ∀ j i p (ν : Mem), i + j = 7 → p < 7 → ν 27 = σ 0 → ν 28 = σ 1 → ν 29 = σ 2 → Ev2 G mX3_traceTo 1 19 [(0, .ref 26), (2, .int (nI p)), (3, .int (nI i))] [] ν
    (fun v μ' => v = none ∧ (∀ a, a ≠ 26 → a ≠ 31 → μ' a = ν a) ∧ (∀ k, ¬ (5 ≤ k ∧ k ≤ 7) → μ' 26 k = ν 26 k) ∧ μ' 26 5 = ν 26 5 + nI (backL σ j p).length ∧ μ' 26 6 = wayHs σ (ν 26 6) (backL σ j p) ∧ μ' 26 7 = wayWs σ (ν 26 7) (backL σ j p) ∧ (∀ k, k < i → μ' 31 k = ν 31 k) ∧ ∀ m q, (backL σ j p)[m]? = some q → μ' 31 (i + m) = pieceV σ q) := by
  intro j
  induction j with
  | zero =>
    intro i p ν hi hp h7 h8 h9
    obtain rfl : i = 7 := by omega
    refine sg_X3_traceTo_19 ⟨fun _ => ⟨rfl, fun _ _ _ => rfl, fun _ _ => rfl, ?_, rfl, rfl, fun _ _ => rfl, fun m q hm => ?_⟩, fun c => absurd (nI_le (a := 7) (Nat.le_refl 7) (by omega)) c⟩
    · exact (Int32.add_zero _).symm
    · simp [backL] at hm
  | succ j ih =>
    intro i p ν hi hp h7 h8 h9
    have eb : backL σ (j + 1) p = if σ 1 p = -1 then [] else p :: backL σ j (σ 2 p).toNatClampNeg := rfl
    refine sg_X3_traceTo_19 ⟨fun c => absurd c (nI_ge (b := 7) (by omega) (by omega)), fun _ => ⟨vp_nI hp (by omega), ?_⟩⟩
    rw [ix_nI (by omega), ix_nI (by omega), h8, h9, h7]
    refine ⟨fun c => ?_, fun c => ⟨vp_nI hp (by omega), vp_nI (by omega) (by omega), vp_nI hp (by omega), ?_⟩⟩
    · rw [eb, if_pos c]
      refine ⟨rfl, fun _ _ _ => rfl, fun _ _ => rfl, ?_, rfl, rfl, fun _ _ => rfl, fun m q hm => ?_⟩
      · exact (Int32.add_zero _).symm
      · simp at hm
    · obtain ⟨q, hq, e2⟩ := hc p hp c
      rw [eb, if_neg c, e2, ix_nI (by omega)]
      have key : ∀ (ξ : Mem), (∀ a, a ≠ 26 → a ≠ 31 → ξ a = ν a) → (∀ k, ¬ (5 ≤ k ∧ k ≤ 7) → ξ 26 k = ν 26 k) → ξ 26 5 = ν 26 5 + 1 → ξ 26 6 = (if σ 1 p = 7 then ν 26 6 else ν 26 6 ||| (1 <<< (σ 1 p &&& 31))) → ξ 26 7 = (if σ 1 p = 7 then ν 26 7 + (σ 0 p - σ 0 (σ 2 p).toNatClampNeg) else ν 26 7) → (∀ k, k < i → ξ 31 k = ν 31 k) → ξ 31 i = pieceV σ p →
          Ev2 G mX3_traceTo 1 19 [(0, .ref 26), (2, .int (nI q)), (3, .int (nI i + 1))] [] ξ (fun v μ' => v = none ∧ (∀ a, a ≠ 26 → a ≠ 31 → μ' a = ν a) ∧ (∀ k, ¬ (5 ≤ k ∧ k ≤ 7) → μ' 26 k = ν 26 k) ∧ μ' 26 5 = ν 26 5 + nI (p :: backL σ j q).length ∧ μ' 26 6 = wayHs σ (ν 26 6) (p :: backL σ j q) ∧ μ' 26 7 = wayWs σ (ν 26 7) (p :: backL σ j q) ∧ (∀ k, k < i → μ' 31 k = ν 31 k) ∧ ∀ m r, (p :: backL σ j q)[m]? = some r → μ' 31 (i + m) = pieceV σ r) := by
        intro ξ a1 a2 a3 a4 a5 a6 a7
        have h := ih (i + 1) q ξ (by omega) hq (by rw [a1 27 (by omega) (by omega)]; exact h7) (by rw [a1 28 (by omega) (by omega)]; exact h8) (by rw [a1 29 (by omega) (by omega)]; exact h9)
        rw [← nI_1] at h
        refine h.imp ?_
        rintro v S' μ' ⟨hS, hv, b1, b2, b3, b4, b5, b6, b7⟩
        refine ⟨hS, hv, fun a q1 q2 => (b1 a q1 q2).trans (a1 a q1 q2), fun k hk => (b2 k hk).trans (a2 k hk), ?_, ?_, ?_, fun k hk => (b6 k (by omega)).trans (a6 k hk), fun m r hm => ?_⟩
        · rw [b3, a3, List.length_cons, ← nI_1, Int32.add_assoc, Int32.add_comm 1]
        · rw [b4, a4]
          rfl
        · rw [b5, a5]
          rfl
        · cases m with
          | zero =>
            cases hm
            rw [Nat.add_zero, b6 i (by omega), a7]
          | succ m =>
            rw [show i + (m + 1) = i + 1 + m by omega]
            exact b7 m r hm
      refine ⟨fun c7 => ⟨vp_nI hp (by omega), vp_nI hp (by omega), ?_⟩, fun c7 => ⟨vp_nI hp (by omega), vp_nI hp (by omega), by rw [show nI q = nI q from rfl]; exact vp_nI hq (by omega), vp_nI hp (by omega), ?_⟩⟩
      · refine key _ (fun a q1 q2 => ?_) (fun k hk => ?_) ?_ ?_ ?_ (fun k hk => ?_) ?_
        · funext k
          simp [mset, q1, q2]
        · simp [mset, show k ≠ 5 by omega, show k ≠ 6 by omega]
        · simp [mset]
        · simp [mset, c7]
        · simp [mset, c7]
        · simp [mset, show k ≠ i by omega]
        · simp [mset, pieceV]
      · refine key _ (fun a q1 q2 => ?_) (fun k hk => ?_) ?_ ?_ ?_ (fun k hk => ?_) ?_
        · funext k
          simp [mset, q1, q2]
        · simp [mset, show k ≠ 5 by omega, show k ≠ 7 by omega]
        · simp [mset]
        · simp [mset, c7]
        · simp [mset, c7, e2, ix_nI (show q < 2 ^ 31 by omega)]
        · simp [mset, show k ≠ i by omega]
        · simp [mset, pieceV]
theorem ct_X3_traceTo {G : GW} (x1 : Int32) (μ : Mem) (hp : vp_in x1 7 ∧ chainOK (get4 27 μ)) : Ev2 G mX3_traceTo 1 0 [(0, .ref 26), (1, .int x1)] [] μ (fun v μ' => v = none ∧ traceR μ (get4 27 μ) x1.toNatClampNeg μ') := by
  obtain ⟨h1, h2⟩ := hp
  obtain ⟨p, hp, rfl⟩ := vp_in_of h1 (by omega)
  rw [ix_nI (by omega)]
  have h := lp_X3_traceTo (G := G) (get4 27 μ) h2 7 0 p (mset (mset (mset μ 26 5 0) 26 6 0) 26 7 0) rfl hp (by funext k; simp [mset, get4]) (by funext k; simp [mset, get4]) (by funext k; simp [mset, get4])
  refine sg_X3_traceTo_0 (h.imp ?_)
  rintro v S' μ' ⟨hS, hv, b1, b2, b3, b4, b5, b6, b7⟩
  refine ⟨hS, hv, fun a q1 q2 => ?_, fun k hk => ?_, ?_, ?_, ?_, fun i q hq => ?_⟩
  · rw [b1 a q1 q2]
    funext k
    simp [mset, q1]
  · rw [b2 k hk]
    simp [mset, show k ≠ 5 by omega, show k ≠ 6 by omega, show k ≠ 7 by omega]
  · rw [b3]
    simp [mset]
  · rw [b4]
    simp [mset]
  · rw [b5]
    simp [mset]
  · have := b7 i q hq
    rw [Nat.zero_add] at this
    exact this
def pieceF (μ : Mem) (i : Int32) : Int32 := if 0 ≤ i ∧ i < μ 26 5 then μ 31 (μ 26 5 - 1 - i).toNatClampNeg else -1
def firstF (x : Int32) : Int32 := if x = -1 ∨ x / 10 = 7 then -1 else x / 10
theorem sg_X3_pieceAt_0 {G : GW} {K : Option Value → Mem → Prop} {μ : Mem} {x1 : Int32}  (h : ((x1 < 0) → K (some (.int (-1))) μ) ∧ ((¬ (x1 < 0)) → (((μ 26 5) ≤ x1) → K (some (.int (-1))) μ) ∧ ((¬ ((μ 26 5) ≤ x1)) → (vp_in (((μ 26 5) - 1) - x1) 7) ∧ K (some (.int (μ 31 (((μ 26 5) - 1) - x1).toNatClampNeg))) μ))) : Ev2 G mX3_pieceAt 1 0 [(0, .ref 26), (1, .int x1)] [] μ K := by
  refine ev_iload_n dX3_pieceAt_0 1 rfl ?_
  refine ev_if_lt (tgt := 28) dX3_pieceAt_1 rfl (fun c1 => ?_) (fun c1 => ?_)
  · have h2 := h.1 c1
    refine ev_iconst (v := (-1)) dX3_pieceAt_28 rfl ?_
    exact ev_ireturn dX3_pieceAt_29 rfl True.intro rfl rfl ⟨rfl, h2⟩
  · have h3 := h.2 c1
    refine ev_iload_n dX3_pieceAt_4 1 rfl ?_
    refine ev_aload_n dX3_pieceAt_5 0 rfl (by decide) ?_
    refine ev_getI' (v := (μ 26 5)) fl_3_28 rfl kd_26 rfl dX3_pieceAt_6 ?_
    refine ev_icmp_ge (tgt := 28) dX3_pieceAt_9 rfl (fun c4 => ?_) (fun c4 => ?_)
    · have h5 := h3.1 c4
      refine ev_iconst (v := (-1)) dX3_pieceAt_28 rfl ?_
      exact ev_ireturn dX3_pieceAt_29 rfl True.intro rfl rfl ⟨rfl, h5⟩
    · have h6 := h3.2 c4
      refine ev_aload_n dX3_pieceAt_12 0 rfl (by decide) ?_
      refine ev_getR' fl_3_25 rfl kd_26 rf_26_4 dX3_pieceAt_13 ?_
      refine ev_aload_n dX3_pieceAt_16 0 rfl (by decide) ?_
      refine ev_getI' (v := (μ 26 5)) fl_3_28 rfl kd_26 rfl dX3_pieceAt_17 ?_
      refine ev_iconst (v := 1) dX3_pieceAt_20 rfl ?_
      refine ev_isub dX3_pieceAt_21 ?_
      refine ev_iload_n dX3_pieceAt_22 1 rfl ?_
      refine ev_isub dX3_pieceAt_23 ?_
      have p7 := h6.1
      have h8 := h6.2
      refine ev_iaload' (v := (μ 31 (((μ 26 5) - 1) - x1).toNatClampNeg)) kd_31 ln_31 p7 rfl dX3_pieceAt_24 ?_
      refine ev_goto (tgt := 29) dX3_pieceAt_25 rfl ?_
      exact ev_ireturn dX3_pieceAt_29 rfl True.intro rfl rfl ⟨rfl, h8⟩
theorem ct_X3_pieceAt {G : GW} (x1 : Int32) (μ : Mem) (hp : ∃ c, c ≤ 7 ∧ μ 26 5 = nI c) : Ev2 G mX3_pieceAt 1 0 [(0, .ref 26), (1, .int x1)] [] μ (fun v μ' => v = some (.int (pieceF μ x1)) ∧ μ' = μ) := by
  obtain ⟨c, hc, e⟩ := hp
  refine sg_X3_pieceAt_0 ⟨fun h => ⟨?_, rfl⟩, fun h => ⟨fun h2 => ⟨?_, rfl⟩, fun h2 => ⟨?_, ?_, rfl⟩⟩⟩
  · unfold pieceF
    rw [if_neg (fun q => absurd q.1 (by rw [Int32.not_le]; exact h))]
  · unfold pieceF
    rw [if_neg (fun q => absurd q.2 (by rw [Int32.not_lt]; exact h2))]
  · rw [Int32.not_lt] at h
    rw [Int32.not_le] at h2
    rw [e] at h2 ⊢
    have e0 : (0 : Int32).toInt = 0 := by decide
    have e1 : (1 : Int32).toInt = 1 := by decide
    rw [i_le] at h
    rw [i_lt, nI_toInt (by omega)] at h2
    have e2 : (nI c - 1).toInt = (c : Int) - 1 := by rw [i_sub (by rw [nI_toInt (by omega)]; omega), nI_toInt (by omega), e1]
    rw [vp_in_iff, i_sub (by omega), e2]
    omega
  · unfold pieceF
    rw [if_pos ⟨by rw [Int32.not_lt] at h; exact h, by rw [Int32.not_le] at h2; exact h2⟩]
theorem sg_X3_firstHorse_0 {G : GW} {K : Option Value → Mem → Prop} {μ : Mem}   (h : (∃ c, c ≤ 7 ∧ μ 26 5 = nI c) ∧ (((pieceF μ (0 : Int32)) = (-1)) → K (some (.int (-1))) μ) ∧ ((¬ ((pieceF μ (0 : Int32)) = (-1))) → ((¬ ((pieceF μ (0 : Int32)) / 10) = 7) → K (some (.int ((pieceF μ (0 : Int32)) / 10))) μ) ∧ ((((pieceF μ (0 : Int32)) / 10) = 7) → K (some (.int (-1))) μ))) : Ev2 G mX3_firstHorse 2 0 [(0, .ref 26)] [] μ K := by
  refine ev_aload_n dX3_firstHorse_0 0 rfl (by decide) ?_
  refine ev_iconst (v := 0) dX3_firstHorse_1 rfl ?_
  have p1 := h.1
  have h2 := h.2
  refine e2_callV (w := .int (pieceF μ (0 : Int32))) (μ1 := μ) (a := 26) (as := [.int 0]) (st := []) ok_X3_pieceAt vi_X3_pieceAt ml_3_74 hcl_3 kd_26 dX3_firstHorse_2 rfl rfl (Nat.le_of_ble_eq_true rfl) (Nat.le_of_ble_eq_true rfl) (by decide) (ct_X3_pieceAt (0) μ p1) ?_
  refine ev_istore_n (lv' := [(0, .ref 26), (1, .int (pieceF μ (0 : Int32)))]) dX3_firstHorse_5 (by decide) [1, 0] rfl ?_
  refine ev_iload_n dX3_firstHorse_6 1 rfl ?_
  refine ev_iconst (v := (-1)) dX3_firstHorse_7 rfl ?_
  refine ev_icmp_eq (tgt := 20) dX3_firstHorse_8 rfl (fun c3 => ?_) (fun c3 => ?_)
  · have h4 := h2.1 c3
    refine ev_iconst (v := (-1)) dX3_firstHorse_20 rfl ?_
    refine ev_goto (tgt := 28) dX3_firstHorse_21 rfl ?_
    exact ev_ireturn dX3_firstHorse_28 rfl True.intro rfl rfl ⟨rfl, h4⟩
  · have h5 := h2.2 c3
    refine ev_iload_n dX3_firstHorse_11 1 rfl ?_
    refine ev_bipush (v := 10) dX3_firstHorse_12 rfl ?_
    refine ev_idiv dX3_firstHorse_14 (by decide) ?_
    refine ev_bipush (v := 7) dX3_firstHorse_15 rfl ?_
    refine ev_icmp_ne (tgt := 24) dX3_firstHorse_17 rfl (fun c6 => ?_) (fun c6 => ?_)
    · have h7 := h5.1 c6
      refine ev_iload_n dX3_firstHorse_24 1 rfl ?_
      refine ev_bipush (v := 10) dX3_firstHorse_25 rfl ?_
      refine ev_idiv dX3_firstHorse_27 (by decide) ?_
      exact ev_ireturn dX3_firstHorse_28 rfl True.intro rfl rfl ⟨rfl, h7⟩
    · have h8 := h5.2 c6
      refine ev_iconst (v := (-1)) dX3_firstHorse_20 rfl ?_
      refine ev_goto (tgt := 28) dX3_firstHorse_21 rfl ?_
      exact ev_ireturn dX3_firstHorse_28 rfl True.intro rfl rfl ⟨rfl, h8⟩
theorem ct_X3_firstHorse {G : GW} (μ : Mem) (hp : ∃ c, c ≤ 7 ∧ μ 26 5 = nI c) : Ev2 G mX3_firstHorse 2 0 [(0, .ref 26)] [] μ (fun v μ' => v = some (.int (firstF (pieceF μ 0))) ∧ μ' = μ) := by
  refine sg_X3_firstHorse_0 ⟨hp, ?_⟩
  repeat' (first | intro _ | apply And.intro)
  all_goals simp_all [firstF, bi, ← Int32.not_lt]
def grS (σ : Mem) : Nat → Int32
  | 0 => 0
  | k + 1 => imax (grS σ k) (σ 0 k)
theorem sg_X3_greatestSoon_0 {G : GW} {K : Option Value → Mem → Prop} {μ : Mem}   (h : Ev2 G mX3_greatestSoon 2 4 [(0, .ref 26), (1, .int 0), (2, .int 0)] [] μ K) : Ev2 G mX3_greatestSoon 2 0 [(0, .ref 26)] [] μ K := by
  refine ev_iconst (v := 0) dX3_greatestSoon_0 rfl ?_
  refine ev_istore_n (lv' := [(0, .ref 26), (1, .int 0)]) dX3_greatestSoon_1 (by decide) [1, 0] rfl ?_
  refine ev_iconst (v := 0) dX3_greatestSoon_2 rfl ?_
  refine ev_istore_n (lv' := [(0, .ref 26), (1, .int 0), (2, .int 0)]) dX3_greatestSoon_3 (by decide) [1, 2, 0] rfl ?_
  exact h
theorem sg_X3_greatestSoon_4 {G : GW} {K : Option Value → Mem → Prop} {μ : Mem} {x1 x2 : Int32}  (h : ((7 ≤ x2) → K (some (.int x1)) μ) ∧ ((¬ (7 ≤ x2)) → (vp_in x2 7) ∧ ∀ y6 : Int32, y6 = (imax x1 (μ 27 x2.toNatClampNeg)) → Ev2 G mX3_greatestSoon 2 4 [(0, .ref 26), (1, .int y6), (2, .int (x2 + 1))] [] μ K)) : Ev2 G mX3_greatestSoon 2 4 [(0, .ref 26), (1, .int x1), (2, .int x2)] [] μ K := by
  refine ev_iload_n dX3_greatestSoon_4 2 rfl ?_
  refine ev_bipush (v := 7) dX3_greatestSoon_5 rfl ?_
  refine ev_icmp_ge (tgt := 27) dX3_greatestSoon_7 rfl (fun c1 => ?_) (fun c1 => ?_)
  · have h2 := h.1 c1
    refine ev_iload_n dX3_greatestSoon_27 1 rfl ?_
    exact ev_ireturn dX3_greatestSoon_28 rfl True.intro rfl rfl ⟨rfl, h2⟩
  · have h3 := h.2 c1
    refine ev_iload_n dX3_greatestSoon_10 1 rfl ?_
    refine ev_aload_n dX3_greatestSoon_11 0 rfl (by decide) ?_
    refine ev_getR' fl_3_9 rfl kd_26 rf_26_0 dX3_greatestSoon_12 ?_
    refine ev_iload_n dX3_greatestSoon_15 2 rfl ?_
    have p4 := h3.1
    have h5 := h3.2
    refine ev_iaload' (v := (μ 27 x2.toNatClampNeg)) kd_27 ln_27 p4 rfl dX3_greatestSoon_16 ?_
    refine ev_max ml_3_68 dX3_greatestSoon_17 (Nat.le_of_ble_eq_true rfl) (by decide) ⟨Nat.le_refl _, Nat.le_refl _⟩ ?_
    refine ev_top (fun y6 ey6 => ?_)
    have h7 := h5 y6 ey6
    refine ev_istore_n (lv' := [(0, .ref 26), (1, .int y6), (2, .int x2)]) dX3_greatestSoon_20 (by decide) [1, 0, 2] rfl ?_
    refine ev_iinc (v := (x2 + 1)) (lv' := [(0, .ref 26), (1, .int y6), (2, .int (x2 + 1))]) dX3_greatestSoon_21 2 rfl rfl (by decide) [1, 2, 0] rfl ?_
    refine ev_goto (tgt := 4) dX3_greatestSoon_24 rfl ?_
    exact h7
theorem lp_X3_greatest {G : GW} (μ : Mem) : ∀ j i, i + j = 7 → Ev2 G mX3_greatestSoon 2 4 [(0, .ref 26), (1, .int (grS (get4 27 μ) i)), (2, .int (nI i))] [] μ (fun v μ' => v = some (.int (grS (get4 27 μ) 7)) ∧ μ' = μ) := by
  intro j
  induction j with
  | zero =>
    intro i hi
    obtain rfl : i = 7 := by omega
    exact sg_X3_greatestSoon_4 ⟨fun _ => ⟨rfl, rfl⟩, fun c => absurd (nI_le (a := 7) (Nat.le_refl 7) (by omega)) c⟩
  | succ j ih =>
    intro i hi
    refine sg_X3_greatestSoon_4 ⟨fun c => absurd c (nI_ge (b := 7) (by omega) (by omega)), fun _ => ⟨vp_nI (by omega) (by omega), ?_⟩⟩
    have h := ih (i + 1) (by omega)
    rw [ix_nI (by omega)]
    rw [← nI_1] at h
    first | exact h | (intro y hy; rw [hy]; exact h)
theorem ct_X3_greatestSoon {G : GW} (μ : Mem) : Ev2 G mX3_greatestSoon 2 0 [(0, .ref 26)] [] μ (fun v μ' => v = some (.int (grS (get4 27 μ) 7)) ∧ μ' = μ) := sg_X3_greatestSoon_0 (lp_X3_greatest μ 7 0 rfl)
