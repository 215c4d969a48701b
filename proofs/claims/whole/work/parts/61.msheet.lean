/-! ===== the reference's public methods: whence, laws, sheets, films ===== -/
theorem ix_40 {s k : Nat} (hs : s < 4) (hk : k < 40) : vp_in (40 * nI s + nI k) 160 ∧ (40 * nI s + nI k).toNatClampNeg = 40 * s + k := by
  have e : 40 * nI s + nI k = nI (40 * s + k) := by
    rw [show (40 : Int32) = nI 40 from rfl, pk_mul, nI_add]
  rw [e, ix_nI (by omega)]
  exact ⟨vp_nI (by omega) (by omega), rfl⟩
theorem inB_s {x : Int32} (h : inB x 0 3 = true) : ∃ s, s < 4 ∧ x = nI s := by
  obtain ⟨s, hs, rfl⟩ := inB_nI (m := 3) (by omega) h
  exact ⟨s, by omega, rfl⟩
theorem holdsB_in {z : Nat} (hz : z ≤ 40) (i : Int32) : holdsB (nI z) i 1 = inB i 0 (nI z - 1) := by
  unfold holdsB inB
  have e1 : decide ((0 : Int32) ≤ 1) = true := by decide
  rw [e1, Bool.true_and]
  by_cases c : 1 ≤ z
  · have : decide ((1 : Int32) ≤ nI z) = true := decide_eq_true (nI_le (a := 1) c (by omega))
    rw [this, Bool.true_and]
  · obtain rfl : z = 0 := by omega
    have a1 : decide ((1 : Int32) ≤ nI 0) = false := by decide
    rw [a1, Bool.false_and, Bool.and_false]
    symm
    rw [Bool.and_eq_false_iff]
    by_cases d : 0 ≤ i
    · right
      refine decide_eq_false (fun q => ?_)
      have := Int32.le_trans d q
      exact absurd this (by decide)
    · exact Or.inl (decide_eq_false d)
theorem soB_cg {f f' g g' : Nat → Int32} : ∀ n, (∀ k, k < n → f k = f' k ∧ g k = g' k) → soB f g n = soB f' g' n := by
  intro n
  induction n with
  | zero => intro _; rfl
  | succ n ih =>
    intro h
    unfold soB
    rw [ih (fun k hk => h k (by omega)), (h n (by omega)).1, (h n (by omega)).2]
theorem iso_ref {α : Mem} (hf : WF α) {a s : Nat} (ha : a < 7) (h7 : α 15 s = 7) : isoA α a s = soB (refS α (allA α) a 0) (fun p => α 16 (40 * s + p)) 7 := by
  unfold isoA
  refine soB_cg 7 (fun k hk => ⟨((run_all hf (allA_ok hf.1) ha).2 k hk).1, ?_⟩)
  unfold numA
  rw [h7, if_pos (by rw [show (7 : Int32) = nI 7 from rfl, holdsB_in (by omega)]; exact inB_of_lt (by omega) hk), ix_nI (by omega)]
theorem sg_X8_isTold_0 {G : GW} {K : Option Value → Mem → Prop} {μ : Mem} {α : Mem} (hf : WF α) {x1 x2 : Int32}  (h : (VM α μ ∧ inB x2 0 6 = true ∧ setOK (aN α) ((((1 : Int32) <<< (μ 82 4 &&& 31)) - 1))) ∧ ∀ μ3 : Mem, (onlyM 99 105 μ μ3 ∧ eq7 (get4 101 μ3) (refS α ((((1 : Int32) <<< (μ 82 4 &&& 31)) - 1)) x2.toNatClampNeg)) → Ev2 G mX8_isTold 5 14 [(0, .ref 82), (1, .int x1), (3, .int 1), (4, .int 0)] [] μ3 K) : Ev2 G mX8_isTold 5 0 [(0, .ref 82), (1, .int x1), (2, .int x2)] [] μ K := by
  refine ev_aload_n dX8_isTold_0 0 rfl (by decide) ?_
  refine ev_iload_n dX8_isTold_1 2 rfl ?_
  refine ev_aload_n dX8_isTold_2 0 rfl (by decide) ?_
  refine e2_callV (w := .int ((((1 : Int32) <<< (μ 82 4 &&& 31)) - 1))) (μ1 := μ) (a := 82) (as := []) (st := [.int x2, .ref 82]) ok_X8_everyOne vi_X8_everyOne ml_8_262 hcl_8 kd_82 dX8_isTold_3 rfl rfl (Nat.le_of_ble_eq_true rfl) (Nat.le_of_ble_eq_true rfl) (by decide) (ct_X8_everyOne μ) ?_
  have p1 := h.1
  have h2 := h.2
  refine e2_callVrv (Rl := fun μ3 => onlyM 99 105 μ μ3 ∧ eq7 (get4 101 μ3) (refS α ((((1 : Int32) <<< (μ 82 4 &&& 31)) - 1)) x2.toNatClampNeg)) (a := 82) (as := [.int x2, .int ((((1 : Int32) <<< (μ 82 4 &&& 31)) - 1))]) (st := []) ok_X8_goFrom vi_X8_goFrom ml_8_256 hcl_8 kd_82 dX8_isTold_6 rfl rfl (Nat.le_of_ble_eq_true rfl) (Nat.le_of_ble_eq_true rfl) (by decide) (ct_X8_goFrom hf (x2) (((((1 : Int32) <<< (μ 82 4 &&& 31)) - 1))) μ p1) (fun μ3 r4 => ?_)
  have h5 := h2 μ3 r4
  refine ev_iconst (v := 1) dX8_isTold_9 rfl ?_
  refine ev_istore_n (lv' := [(0, .ref 82), (1, .int x1), (2, .int x2), (3, .int 1)]) dX8_isTold_10 (by decide) [1, 2, 3, 0] rfl ?_
  refine ev_iconst (v := 0) dX8_isTold_11 rfl ?_
  refine ev_istore (lv' := [(0, .ref 82), (1, .int x1), (2, .int x2), (3, .int 1), (4, .int 0)]) dX8_isTold_12 (by decide) [1, 2, 3, 4, 0] rfl ?_
  refine EvW.less [0, 1, 3, 4] (lv' := [(0, .ref 82), (1, .int x1), (3, .int 1), (4, .int 0)]) rfl ?_
  exact h5
theorem sg_X8_isTold_14 {G : GW} {K : Option Value → Mem → Prop} {μ : Mem} {α : Mem} (hf : WF α) {x1 x4 : Int32} {x3 : Bool}  (h : ((7 ≤ x4) → K (some (.int (bi x3))) μ) ∧ ((¬ (7 ≤ x4)) → ((x3 = false) → Ev2 G mX8_isTold 5 14 [(0, .ref 82), (1, .int x1), (3, .int 0), (4, .int (x4 + 1))] [] μ K) ∧ ((x3 = true) → (vp_in ((40 * x1) + x4) 160) ∧ (vp_in x4 7) ∧ ((¬ (μ 111 ((40 * x1) + x4).toNatClampNeg) = (μ 101 x4.toNatClampNeg)) → Ev2 G mX8_isTold 5 14 [(0, .ref 82), (1, .int x1), (3, .int 0), (4, .int (x4 + 1))] [] μ K) ∧ (((μ 111 ((40 * x1) + x4).toNatClampNeg) = (μ 101 x4.toNatClampNeg)) → Ev2 G mX8_isTold 5 14 [(0, .ref 82), (1, .int x1), (3, .int 1), (4, .int (x4 + 1))] [] μ K)))) : Ev2 G mX8_isTold 5 14 [(0, .ref 82), (1, .int x1), (3, .int (bi x3)), (4, .int x4)] [] μ K := by
  refine ev_iload dX8_isTold_14 3 rfl ?_
  refine ev_bipush (v := 7) dX8_isTold_16 rfl ?_
  refine ev_icmp_ge (tgt := 59) dX8_isTold_18 rfl (fun c1 => ?_) (fun c1 => ?_)
  · have h2 := h.1 c1
    refine ev_iload_n dX8_isTold_59 2 rfl ?_
    exact ev_ireturn dX8_isTold_60 rfl (nb_bi _) rfl rfl ⟨rfl, h2⟩
  · have h3 := h.2 c1
    refine ev_iload_n dX8_isTold_21 2 rfl ?_
    refine ev_ifeq_bi (tgt := 51) dX8_isTold_22 rfl (fun c4 => ?_) (fun c4 => ?_)
    · have h5 := h3.1 c4
      refine ev_iconst (v := 0) dX8_isTold_51 rfl ?_
      refine ev_istore_n (lv' := [(0, .ref 82), (1, .int x1), (3, .int 0), (4, .int x4)]) dX8_isTold_52 (by decide) [1, 2, 0, 3] rfl ?_
      refine ev_iinc (v := (x4 + 1)) (lv' := [(0, .ref 82), (1, .int x1), (3, .int 0), (4, .int (x4 + 1))]) dX8_isTold_53 3 rfl rfl (by decide) [1, 2, 3, 0] rfl ?_
      refine ev_goto (tgt := 14) dX8_isTold_56 rfl ?_
      exact h5
    · have h6 := h3.2 c4
      refine ev_aload_n dX8_isTold_25 0 rfl (by decide) ?_
      refine ev_getR' fl_8_231 rfl kd_82 rf_82_47 dX8_isTold_26 ?_
      refine ev_bipush (v := 40) dX8_isTold_29 rfl ?_
      refine ev_iload_n dX8_isTold_31 1 rfl ?_
      refine ev_imul dX8_isTold_32 ?_
      refine ev_iload dX8_isTold_33 3 rfl ?_
      refine ev_iadd dX8_isTold_35 ?_
      have p7 := h6.1
      have h8 := h6.2
      refine ev_iaload' (v := (μ 111 ((40 * x1) + x4).toNatClampNeg)) kd_111 ln_111 p7 rfl dX8_isTold_36 ?_
      refine ev_aload_n dX8_isTold_37 0 rfl (by decide) ?_
      refine ev_getR' fl_8_201 rfl kd_82 rf_82_32 dX8_isTold_38 ?_
      refine ev_iload dX8_isTold_41 3 rfl ?_
      have p9 := h8.1
      have h10 := h8.2
      refine ev_iaload' (v := (μ 101 x4.toNatClampNeg)) kd_101 ln_101 p9 rfl dX8_isTold_43 ?_
      refine ev_icmp_ne (tgt := 51) dX8_isTold_44 rfl (fun c11 => ?_) (fun c11 => ?_)
      · have h12 := h10.1 c11
        refine ev_iconst (v := 0) dX8_isTold_51 rfl ?_
        refine ev_istore_n (lv' := [(0, .ref 82), (1, .int x1), (3, .int 0), (4, .int x4)]) dX8_isTold_52 (by decide) [1, 2, 0, 3] rfl ?_
        refine ev_iinc (v := (x4 + 1)) (lv' := [(0, .ref 82), (1, .int x1), (3, .int 0), (4, .int (x4 + 1))]) dX8_isTold_53 3 rfl rfl (by decide) [1, 2, 3, 0] rfl ?_
        refine ev_goto (tgt := 14) dX8_isTold_56 rfl ?_
        exact h12
      · have h13 := h10.2 c11
        refine ev_iconst (v := 1) dX8_isTold_47 rfl ?_
        refine ev_goto (tgt := 52) dX8_isTold_48 rfl ?_
        refine ev_istore_n (lv' := [(0, .ref 82), (1, .int x1), (3, .int 1), (4, .int x4)]) dX8_isTold_52 (by decide) [1, 2, 0, 3] rfl ?_
        refine ev_iinc (v := (x4 + 1)) (lv' := [(0, .ref 82), (1, .int x1), (3, .int 1), (4, .int (x4 + 1))]) dX8_isTold_53 3 rfl rfl (by decide) [1, 2, 3, 0] rfl ?_
        refine ev_goto (tgt := 14) dX8_isTold_56 rfl ?_
        exact h13
theorem lp_X8_isTold {G : GW} {α μ ν : Mem} (hf : WF α) (h : VM α ν) (ho : onlyM 99 105 μ ν) {f : Nat → Int32} (h1 : ∀ k, k < 7 → ν 101 k = f k) {s : Nat} (hs : s < 4) : ∀ j i, i + j = 7 → Ev2 G mX8_isTold 5 14 [(0, .ref 82), (1, .int (nI s)), (3, .int (bi (soB f (fun p => α 16 (40 * s + p)) i))), (4, .int (nI i))] [] ν (fun v μ' => ∃ x, v = some (.int x) ∧ (x = bi (soB f (fun p => α 16 (40 * s + p)) 7) ∧ onlyM 99 105 μ μ')) := by
  intro j
  induction j with
  | zero =>
    intro i hi
    obtain rfl : i = 7 := hi
    exact sg_X8_isTold_14 hf ⟨fun _ => ⟨_, rfl, rfl, ho⟩, fun c => absurd (nI_le (a := 7) (Nat.le_refl _) (by omega)) c⟩
  | succ j ih =>
    intro i hi
    have hh := ih (i + 1) (by omega)
    have ep : soB f (fun p => α 16 (40 * s + p)) (i + 1) = (soB f (fun p => α 16 (40 * s + p)) i && decide (f i = α 16 (40 * s + i))) := rfl
    rw [ep, ← nI_1] at hh
    obtain ⟨q1, q2⟩ := ix_40 hs (show i < 40 by omega)
    have e111 : ν 111 (40 * s + i) = α 16 (40 * s + i) := (h.2.2.2.2.2.2.2.1 s hs).2.2 i (by omega)
    refine sg_X8_isTold_14 hf ⟨fun c => absurd c (nI_ge (b := 7) (by omega) (by omega)), fun _ => ⟨fun c => ?_, fun c => ⟨q1, vp_nI (by omega) (by omega), ?_⟩⟩⟩
    · rw [c, Bool.false_and] at hh
      exact hh
    · rw [q2, ix_nI (by omega), e111, h1 i (by omega)]
      rw [c, Bool.true_and] at hh
      refine ⟨fun d => ?_, fun d => ?_⟩
      · rw [decide_eq_false (fun q => d q.symm)] at hh
        exact hh
      · rw [decide_eq_true d.symm] at hh
        exact hh
theorem ct_X8_isTold {G : GW} {α : Mem} (hf : WF α) (x1 x2 : Int32) (μ : Mem) (hp : VM α μ ∧ inB x1 0 3 = true ∧ α 15 x1.toNatClampNeg = 7 ∧ inB x2 0 6 = true) : Ev2 G mX8_isTold 5 0 [(0, .ref 82), (1, .int x1), (2, .int x2)] [] μ (fun v μ' => ∃ x, v = some (.int x) ∧ (x = bi (isoA α x2.toNatClampNeg x1.toNatClampNeg) ∧ onlyM 99 105 μ μ')) := by
  obtain ⟨h, h1, h7, h2⟩ := hp
  refine sg_X8_isTold_0 hf ?_
  rw [h.all]
  refine ⟨⟨h, h2, allA_ok hf.1⟩, fun ν hν => ?_⟩
  obtain ⟨s, hs, rfl⟩ := inB_s h1
  obtain ⟨a, ha, rfl⟩ := inB_p h2
  rw [ix_nI (by omega)] at h7 hν
  rw [ix_nI (by omega), ix_nI (by omega), iso_ref hf ha h7]
  obtain ⟨h1, k1⟩ := h.o hf hν.1
  exact lp_X8_isTold hf h1 hν.1 (fun k hk => hν.2 0 (by omega) k hk) hs 7 0 rfl
theorem sort_of {α : Mem} (hf : WF α) {s : Nat} (hs : s < 4) : (0 ≤ α 14 s ↔ ¬ α 14 s = -1) := by
  rcases (hf.2.2.2.2.2.2.2 s hs).1 with e | e | e | e <;> rw [e] <;> decide
theorem VM.sh {α μ : Mem} (h : VM α μ) {s : Nat} (hs : s < 4) : μ 109 s = α 14 s ∧ μ 110 s = α 15 s ∧ ∀ k, k < 40 → μ 111 (40 * s + k) = α 16 (40 * s + k) := h.2.2.2.2.2.2.2.1 s hs
theorem sg_X8_whence_0 {G : GW} {K : Option Value → Mem → Prop} {μ : Mem} {α : Mem} (hf : WF α) {x1 : Int32}  (h : (((inB x1 0 3) = true) → (vp_in x1 4) ∧ ((0 ≤ (μ 109 x1.toNatClampNeg)) → (vp_in x1 4) ∧ (((μ 110 x1.toNatClampNeg) = 7) → Ev2 G mX8_whence 6 40 [(0, .ref 82), (1, .int x1), (2, .int 0), (3, .int 0)] [] μ K) ∧ ((¬ ((μ 110 x1.toNatClampNeg) = 7)) → K (some (.int (-2))) μ)) ∧ ((¬ (0 ≤ (μ 109 x1.toNatClampNeg))) → K (some (.int (-11))) μ)) ∧ (((inB x1 0 3) = false) → K (some (.int (-2))) μ)) : Ev2 G mX8_whence 6 0 [(0, .ref 82), (1, .int x1)] [] μ K := by
  refine ev_iload_n dX8_whence_0 1 rfl ?_
  refine e2_callS (w := .int (bi (inB x1 0 3))) (μ1 := μ) (as := [.int x1]) (st := []) ok_X8_isSheet sv_X8_isSheet ml_8_288 dX8_whence_1 rfl rfl (Nat.le_of_ble_eq_true rfl) (Nat.le_of_ble_eq_true rfl) (by decide) (ct_X8_isSheet (x1) μ) ?_
  refine ev_ifne_bi (tgt := 10) dX8_whence_4 rfl (fun c1 => ?_) (fun c1 => ?_)
  · have h2 := h.1 c1
    refine ev_aload_n dX8_whence_10 0 rfl (by decide) ?_
    refine ev_getR' fl_8_225 rfl kd_82 rf_82_45 dX8_whence_11 ?_
    refine ev_iload_n dX8_whence_14 1 rfl ?_
    have p4 := h2.1
    have h5 := h2.2
    refine ev_iaload' (v := (μ 109 x1.toNatClampNeg)) kd_109 ln_109 p4 rfl dX8_whence_15 ?_
    refine ev_if_ge (tgt := 22) dX8_whence_16 rfl (fun c6 => ?_) (fun c6 => ?_)
    · have h7 := h5.1 c6
      refine ev_aload_n dX8_whence_22 0 rfl (by decide) ?_
      refine ev_getR' fl_8_228 rfl kd_82 rf_82_46 dX8_whence_23 ?_
      refine ev_iload_n dX8_whence_26 1 rfl ?_
      have p9 := h7.1
      have h10 := h7.2
      refine ev_iaload' (v := (μ 110 x1.toNatClampNeg)) kd_110 ln_110 p9 rfl dX8_whence_27 ?_
      refine ev_bipush (v := 7) dX8_whence_28 rfl ?_
      refine ev_icmp_eq (tgt := 36) dX8_whence_30 rfl (fun c11 => ?_) (fun c11 => ?_)
      · have h12 := h10.1 c11
        refine ev_iconst (v := 0) dX8_whence_36 rfl ?_
        refine ev_istore_n (lv' := [(0, .ref 82), (1, .int x1), (2, .int 0)]) dX8_whence_37 (by decide) [1, 2, 0] rfl ?_
        refine ev_iconst (v := 0) dX8_whence_38 rfl ?_
        refine ev_istore_n (lv' := [(0, .ref 82), (1, .int x1), (2, .int 0), (3, .int 0)]) dX8_whence_39 (by decide) [1, 2, 3, 0] rfl ?_
        exact h12
      · have h13 := h10.2 c11
        refine ev_bipush (v := (-2)) dX8_whence_33 rfl ?_
        exact ev_ireturn dX8_whence_35 rfl True.intro rfl rfl ⟨rfl, h13⟩
    · have h8 := h5.2 c6
      refine ev_bipush (v := (-11)) dX8_whence_19 rfl ?_
      exact ev_ireturn dX8_whence_21 rfl True.intro rfl rfl ⟨rfl, h8⟩
  · have h3 := h.2 c1
    refine ev_bipush (v := (-2)) dX8_whence_7 rfl ?_
    exact ev_ireturn dX8_whence_9 rfl True.intro rfl rfl ⟨rfl, h3⟩
theorem sg_X8_whence_40 {G : GW} {K : Option Value → Mem → Prop} {μ : Mem} {α : Mem} (hf : WF α) {x1 x2 x3 : Int32}  (h : ((7 ≤ x3) → K (some (.int x2)) μ) ∧ ((¬ (7 ≤ x3)) → (VM α μ ∧ inB x1 0 3 = true ∧ α 15 x1.toNatClampNeg = 7 ∧ inB x3 0 6 = true) ∧ ∀ (z6 : Int32) (μ7 : Mem), (z6 = bi (isoA α x3.toNatClampNeg x1.toNatClampNeg) ∧ onlyM 99 105 μ μ7) → ((z6 = 0) → Ev2 G mX8_whence 6 40 [(0, .ref 82), (1, .int x1), (2, .int (x2 ||| 0)), (3, .int (x3 + 1))] [] μ7 K) ∧ ((¬ (z6 = 0)) → ∀ y13 : Int32, y13 = (x2 ||| ((1 : Int32) <<< (x3 &&& 31))) → Ev2 G mX8_whence 6 40 [(0, .ref 82), (1, .int x1), (2, .int y13), (3, .int (x3 + 1))] [] μ7 K))) : Ev2 G mX8_whence 6 40 [(0, .ref 82), (1, .int x1), (2, .int x2), (3, .int x3)] [] μ K := by
  refine ev_iload_n dX8_whence_40 3 rfl ?_
  refine ev_bipush (v := 7) dX8_whence_41 rfl ?_
  refine ev_icmp_ge (tgt := 71) dX8_whence_43 rfl (fun c1 => ?_) (fun c1 => ?_)
  · have h2 := h.1 c1
    refine ev_iload_n dX8_whence_71 2 rfl ?_
    exact ev_ireturn dX8_whence_72 rfl True.intro rfl rfl ⟨rfl, h2⟩
  · have h3 := h.2 c1
    refine ev_iload_n dX8_whence_46 2 rfl ?_
    refine ev_aload_n dX8_whence_47 0 rfl (by decide) ?_
    refine ev_iload_n dX8_whence_48 1 rfl ?_
    refine ev_iload_n dX8_whence_49 3 rfl ?_
    have p4 := h3.1
    have h5 := h3.2
    refine e2_callVr (Rl := fun z6 μ7 => z6 = bi (isoA α x3.toNatClampNeg x1.toNatClampNeg) ∧ onlyM 99 105 μ μ7) (a := 82) (as := [.int x1, .int x3]) (st := [.int x2]) ok_X8_isTold vi_X8_isTold ml_8_291 hcl_8 kd_82 dX8_whence_50 rfl rfl (Nat.le_of_ble_eq_true rfl) (Nat.le_of_ble_eq_true rfl) (by decide) (ct_X8_isTold hf (x1) (x3) μ p4) (fun z6 μ7 r8 => ?_)
    have h9 := h5 z6 μ7 r8
    refine ev_if_eq (tgt := 62) dX8_whence_53 rfl (fun c10 => ?_) (fun c10 => ?_)
    · have h11 := h9.1 c10
      refine ev_iconst (v := 0) dX8_whence_62 rfl ?_
      refine ev_ior dX8_whence_63 ?_
      refine ev_istore_n (lv' := [(0, .ref 82), (1, .int x1), (2, .int (x2 ||| 0)), (3, .int x3)]) dX8_whence_64 (by decide) [1, 2, 0, 3] rfl ?_
      refine ev_iinc (v := (x3 + 1)) (lv' := [(0, .ref 82), (1, .int x1), (2, .int (x2 ||| 0)), (3, .int (x3 + 1))]) dX8_whence_65 3 rfl rfl (by decide) [1, 2, 3, 0] rfl ?_
      refine ev_goto (tgt := 40) dX8_whence_68 rfl ?_
      exact h11
    · have h12 := h9.2 c10
      refine ev_iconst (v := 1) dX8_whence_56 rfl ?_
      refine ev_iload_n dX8_whence_57 3 rfl ?_
      refine ev_ishl dX8_whence_58 ?_
      refine ev_goto (tgt := 63) dX8_whence_59 rfl ?_
      refine ev_ior dX8_whence_63 ?_
      refine ev_top (fun y13 ey13 => ?_)
      have h14 := h12 y13 ey13
      refine ev_istore_n (lv' := [(0, .ref 82), (1, .int x1), (2, .int y13), (3, .int x3)]) dX8_whence_64 (by decide) [1, 2, 0, 3] rfl ?_
      refine ev_iinc (v := (x3 + 1)) (lv' := [(0, .ref 82), (1, .int x1), (2, .int y13), (3, .int (x3 + 1))]) dX8_whence_65 3 rfl rfl (by decide) [1, 2, 3, 0] rfl ?_
      refine ev_goto (tgt := 40) dX8_whence_68 rfl ?_
      exact h14
theorem lp_X8_whence {G : GW} {α μ0 : Mem} (hf : WF α) {s : Nat} (hs : s < 4) (h7 : α 15 s = 7) : ∀ j p (μ : Mem), p + j = 7 → VM α μ → keepX μ0 μ → Ev2 G mX8_whence 6 40 [(0, .ref 82), (1, .int (nI s)), (2, .int (whA α s p)), (3, .int (nI p))] [] μ (fun v μ' => v = some (.int (whA α s 7)) ∧ VM α μ' ∧ keepX μ0 μ') := by
  intro j
  induction j with
  | zero =>
    intro p μ hp h hm
    obtain rfl : p = 7 := hp
    exact sg_X8_whence_40 hf ⟨fun _ => ⟨rfl, h, hm⟩, fun c => absurd (nI_le (a := 7) (Nat.le_refl _) (by omega)) c⟩
  | succ j ih =>
    intro p μ hp h hm
    refine sg_X8_whence_40 hf ⟨fun c => absurd c (nI_ge (b := 7) (by omega) (by omega)), fun _ => ?_⟩
    rw [ix_nI (i := s) (by omega), ix_nI (i := p) (by omega)]
    refine ⟨⟨h, inB_of (m := 3) (by omega) (by omega), h7, inB_7 (by omega)⟩, fun x ν hx => ?_⟩
    obtain ⟨ex, ho⟩ := hx
    obtain ⟨h1, k1⟩ := h.o hf ho
    have hh := ih (p + 1) ν (by omega) h1 (hm.tr k1)
    rw [whA_succ, ← nI_1] at hh
    rw [ex]
    refine ⟨fun c => ?_, fun c y hy => ?_⟩
    · rw [if_neg (by rw [bi_F c]; decide)] at hh
      rw [Int32.or_zero]
      exact hh
    · rw [if_pos (bi_T c)] at hh
      rw [hy]
      exact hh
theorem pb_X8_whence {G : GW} {α μ : Mem} (hf : WF α) (h : VM α μ) (x1 : Int32) : pubM G mX8_whence 6 [(0, .ref 82), (1, .int x1)] α μ (.int (sp_whence α x1)) α := by
  have hk := keepX.rf μ
  refine sg_X8_whence_0 hf ⟨fun c => ?_, fun c => ?_⟩
  · obtain ⟨s, hs, rfl⟩ := inB_s c
    obtain ⟨e1, e2, -⟩ := h.sh hs
    unfold sp_whence refA
    rw [if_pos c, ix_nI (by omega), e1, e2, sort_of hf hs]
    have v4 : vp_in (nI s) 4 := vp_nI hs (by omega)
    refine ⟨v4, fun d => ⟨v4, fun e => ?_, fun e => ?_⟩, fun d => ?_⟩
    · rw [if_neg d, if_pos e, if_pos rfl]
      exact lp_X8_whence hf hs e 7 0 μ rfl h hk
    · rw [if_neg d, if_neg e, if_neg (by decide)]
      exact ⟨rfl, h, hk⟩
    · rw [if_pos (Decidable.not_not.mp d), if_neg (by decide)]
      exact ⟨rfl, h, hk⟩
  · unfold sp_whence refA
    have cf : ¬ inB x1 0 3 = true := by rw [c]; decide
    rw [if_neg cf, if_neg (show ¬ ((-2 : Int32) = 0) by decide)]
    exact ⟨rfl, h, hk⟩
theorem sg_X8_laws_0 {G : GW} {K : Option Value → Mem → Prop} {μ : Mem} {α : Mem} (hf : WF α) {x1 x2 : Int32}  (h : (((inB x1 0 3) = true) → (vp_in x1 4) ∧ ((0 ≤ (μ 109 x1.toNatClampNeg)) → (vp_in x1 4) ∧ (((μ 110 x1.toNatClampNeg) = 7) → (((inB x2 0 6) = true) → Ev2 G mX8_laws 6 57 [(0, .ref 82), (1, .int x1), (2, .int x2), (3, .int (μ 82 14)), (4, .int 0), (5, .int 0)] [] μ K) ∧ (((inB x2 0 6) = false) → K (some (.int (-5))) μ)) ∧ ((¬ ((μ 110 x1.toNatClampNeg) = 7)) → K (some (.int (-2))) μ)) ∧ ((¬ (0 ≤ (μ 109 x1.toNatClampNeg))) → K (some (.int (-11))) μ)) ∧ (((inB x1 0 3) = false) → K (some (.int (-2))) μ)) : Ev2 G mX8_laws 6 0 [(0, .ref 82), (1, .int x1), (2, .int x2)] [] μ K := by
  refine ev_iload_n dX8_laws_0 1 rfl ?_
  refine e2_callS (w := .int (bi (inB x1 0 3))) (μ1 := μ) (as := [.int x1]) (st := []) ok_X8_isSheet sv_X8_isSheet ml_8_288 dX8_laws_1 rfl rfl (Nat.le_of_ble_eq_true rfl) (Nat.le_of_ble_eq_true rfl) (by decide) (ct_X8_isSheet (x1) μ) ?_
  refine ev_ifne_bi (tgt := 10) dX8_laws_4 rfl (fun c1 => ?_) (fun c1 => ?_)
  · have h2 := h.1 c1
    refine ev_aload_n dX8_laws_10 0 rfl (by decide) ?_
    refine ev_getR' fl_8_225 rfl kd_82 rf_82_45 dX8_laws_11 ?_
    refine ev_iload_n dX8_laws_14 1 rfl ?_
    have p4 := h2.1
    have h5 := h2.2
    refine ev_iaload' (v := (μ 109 x1.toNatClampNeg)) kd_109 ln_109 p4 rfl dX8_laws_15 ?_
    refine ev_if_ge (tgt := 22) dX8_laws_16 rfl (fun c6 => ?_) (fun c6 => ?_)
    · have h7 := h5.1 c6
      refine ev_aload_n dX8_laws_22 0 rfl (by decide) ?_
      refine ev_getR' fl_8_228 rfl kd_82 rf_82_46 dX8_laws_23 ?_
      refine ev_iload_n dX8_laws_26 1 rfl ?_
      have p9 := h7.1
      have h10 := h7.2
      refine ev_iaload' (v := (μ 110 x1.toNatClampNeg)) kd_110 ln_110 p9 rfl dX8_laws_27 ?_
      refine ev_bipush (v := 7) dX8_laws_28 rfl ?_
      refine ev_icmp_eq (tgt := 36) dX8_laws_30 rfl (fun c11 => ?_) (fun c11 => ?_)
      · have h12 := h10.1 c11
        refine ev_iload_n dX8_laws_36 2 rfl ?_
        refine e2_callS (w := .int (bi (inB x2 0 6))) (μ1 := μ) (as := [.int x2]) (st := []) ok_X8_isPlace sv_X8_isPlace ml_8_18 dX8_laws_37 rfl rfl (Nat.le_of_ble_eq_true rfl) (Nat.le_of_ble_eq_true rfl) (by decide) (ct_X8_isPlace (x2) μ) ?_
        refine ev_ifne_bi (tgt := 46) dX8_laws_40 rfl (fun c14 => ?_) (fun c14 => ?_)
        · have h15 := h12.1 c14
          refine ev_aload_n dX8_laws_46 0 rfl (by decide) ?_
          refine ev_getI' (v := (μ 82 14)) fl_8_187 rfl kd_82 rfl dX8_laws_47 ?_
          refine ev_istore_n (lv' := [(0, .ref 82), (1, .int x1), (2, .int x2), (3, .int (μ 82 14))]) dX8_laws_50 (by decide) [1, 2, 3, 0] rfl ?_
          refine ev_iconst (v := 0) dX8_laws_51 rfl ?_
          refine ev_istore (lv' := [(0, .ref 82), (1, .int x1), (2, .int x2), (3, .int (μ 82 14)), (4, .int 0)]) dX8_laws_52 (by decide) [1, 2, 3, 4, 0] rfl ?_
          refine ev_iconst (v := 0) dX8_laws_54 rfl ?_
          refine ev_istore (lv' := [(0, .ref 82), (1, .int x1), (2, .int x2), (3, .int (μ 82 14)), (4, .int 0), (5, .int 0)]) dX8_laws_55 (by decide) [1, 2, 3, 4, 5, 0] rfl ?_
          exact h15
        · have h16 := h12.2 c14
          refine ev_bipush (v := (-5)) dX8_laws_43 rfl ?_
          exact ev_ireturn dX8_laws_45 rfl True.intro rfl rfl ⟨rfl, h16⟩
      · have h13 := h10.2 c11
        refine ev_bipush (v := (-2)) dX8_laws_33 rfl ?_
        exact ev_ireturn dX8_laws_35 rfl True.intro rfl rfl ⟨rfl, h13⟩
    · have h8 := h5.2 c6
      refine ev_bipush (v := (-11)) dX8_laws_19 rfl ?_
      exact ev_ireturn dX8_laws_21 rfl True.intro rfl rfl ⟨rfl, h8⟩
  · have h3 := h.2 c1
    refine ev_bipush (v := (-2)) dX8_laws_7 rfl ?_
    exact ev_ireturn dX8_laws_9 rfl True.intro rfl rfl ⟨rfl, h3⟩
theorem sg_X8_laws_57 {G : GW} {K : Option Value → Mem → Prop} {μ : Mem} {α : Mem} (hf : WF α) {x1 x2 x3 x4 x5 : Int32}  (h : (((μ 82 13) ≤ x5) → K (some (.int x4)) (mset μ 82 14 x3)) ∧ ((¬ ((μ 82 13) ≤ x5)) → (VM α (mset μ 82 14 x5) ∧ inB x1 0 3 = true ∧ α 15 x1.toNatClampNeg = 7 ∧ inB x2 0 6 = true) ∧ ∀ (z6 : Int32) (μ7 : Mem), (z6 = bi (isoA α x2.toNatClampNeg x1.toNatClampNeg) ∧ onlyM 99 105 (mset μ 82 14 x5) μ7) → ((z6 = 0) → Ev2 G mX8_laws 6 57 [(0, .ref 82), (1, .int x1), (2, .int x2), (3, .int x3), (4, .int (x4 ||| 0)), (5, .int (x5 + 1))] [] μ7 K) ∧ ((¬ (z6 = 0)) → ∀ y13 : Int32, y13 = (x4 ||| ((1 : Int32) <<< (x5 &&& 31))) → Ev2 G mX8_laws 6 57 [(0, .ref 82), (1, .int x1), (2, .int x2), (3, .int x3), (4, .int y13), (5, .int (x5 + 1))] [] μ7 K))) : Ev2 G mX8_laws 6 57 [(0, .ref 82), (1, .int x1), (2, .int x2), (3, .int x3), (4, .int x4), (5, .int x5)] [] μ K := by
  refine ev_iload dX8_laws_57 5 rfl ?_
  refine ev_aload_n dX8_laws_59 0 rfl (by decide) ?_
  refine ev_getI' (v := (μ 82 13)) fl_8_181 rfl kd_82 rfl dX8_laws_60 ?_
  refine ev_icmp_ge (tgt := 100) dX8_laws_63 rfl (fun c1 => ?_) (fun c1 => ?_)
  · have h2 := h.1 c1
    refine ev_aload_n dX8_laws_100 0 rfl (by decide) ?_
    refine ev_iload_n dX8_laws_101 3 rfl ?_
    refine ev_putI fl_8_187 ⟨rfl, rfl, rfl⟩ (fun r hr => by cases hr; rfl) kd_82 dX8_laws_102 ?_
    refine ev_iload dX8_laws_105 4 rfl ?_
    exact ev_ireturn dX8_laws_107 rfl True.intro rfl rfl ⟨rfl, h2⟩
  · have h3 := h.2 c1
    refine ev_aload_n dX8_laws_66 0 rfl (by decide) ?_
    refine ev_iload dX8_laws_67 5 rfl ?_
    refine ev_putI fl_8_187 ⟨rfl, rfl, rfl⟩ (fun r hr => by cases hr; rfl) kd_82 dX8_laws_69 ?_
    refine ev_iload dX8_laws_72 4 rfl ?_
    refine ev_aload_n dX8_laws_74 0 rfl (by decide) ?_
    refine ev_iload_n dX8_laws_75 1 rfl ?_
    refine ev_iload_n dX8_laws_76 2 rfl ?_
    have p4 := h3.1
    have h5 := h3.2
    refine e2_callVr (Rl := fun z6 μ7 => z6 = bi (isoA α x2.toNatClampNeg x1.toNatClampNeg) ∧ onlyM 99 105 (mset μ 82 14 x5) μ7) (a := 82) (as := [.int x1, .int x2]) (st := [.int x4]) ok_X8_isTold vi_X8_isTold ml_8_291 hcl_8 kd_82 dX8_laws_77 rfl rfl (Nat.le_of_ble_eq_true rfl) (Nat.le_of_ble_eq_true rfl) (by decide) (ct_X8_isTold hf (x1) (x2) (mset μ 82 14 x5) p4) (fun z6 μ7 r8 => ?_)
    have h9 := h5 z6 μ7 r8
    refine ev_if_eq (tgt := 90) dX8_laws_80 rfl (fun c10 => ?_) (fun c10 => ?_)
    · have h11 := h9.1 c10
      refine ev_iconst (v := 0) dX8_laws_90 rfl ?_
      refine ev_ior dX8_laws_91 ?_
      refine ev_istore (lv' := [(0, .ref 82), (1, .int x1), (2, .int x2), (3, .int x3), (4, .int (x4 ||| 0)), (5, .int x5)]) dX8_laws_92 (by decide) [1, 2, 3, 4, 0, 5] rfl ?_
      refine ev_iinc (v := (x5 + 1)) (lv' := [(0, .ref 82), (1, .int x1), (2, .int x2), (3, .int x3), (4, .int (x4 ||| 0)), (5, .int (x5 + 1))]) dX8_laws_94 5 rfl rfl (by decide) [1, 2, 3, 4, 5, 0] rfl ?_
      refine ev_goto (tgt := 57) dX8_laws_97 rfl ?_
      exact h11
    · have h12 := h9.2 c10
      refine ev_iconst (v := 1) dX8_laws_83 rfl ?_
      refine ev_iload dX8_laws_84 5 rfl ?_
      refine ev_ishl dX8_laws_86 ?_
      refine ev_goto (tgt := 91) dX8_laws_87 rfl ?_
      refine ev_ior dX8_laws_91 ?_
      refine ev_top (fun y13 ey13 => ?_)
      have h14 := h12 y13 ey13
      refine ev_istore (lv' := [(0, .ref 82), (1, .int x1), (2, .int x2), (3, .int x3), (4, .int y13), (5, .int x5)]) dX8_laws_92 (by decide) [1, 2, 3, 4, 0, 5] rfl ?_
      refine ev_iinc (v := (x5 + 1)) (lv' := [(0, .ref 82), (1, .int x1), (2, .int x2), (3, .int x3), (4, .int y13), (5, .int (x5 + 1))]) dX8_laws_94 5 rfl rfl (by decide) [1, 2, 3, 4, 5, 0] rfl ?_
      refine ev_goto (tgt := 57) dX8_laws_97 rfl ?_
      exact h14
theorem lp_X8_laws {G : GW} {α μ0 : Mem} (hf : WF α) {a s : Nat} (ha : a < 7) (hs : s < 4) (h7 : α 15 s = 7) : ∀ j t l (μ : Mem), t + j = aX α → l < aX α → VM (lawA α (nI l)) μ → keepX μ0 μ → Ev2 G mX8_laws 6 57 [(0, .ref 82), (1, .int (nI s)), (2, .int (nI a)), (3, .int (α 0 3)), (4, .int (lwA α a s t)), (5, .int (nI t))] [] μ (fun v μ' => v = some (.int (lwA α a s (aX α))) ∧ VM α μ' ∧ keepX μ0 μ') := by
  have hx6 := hf.1.2.2.1.2
  intro j
  induction j with
  | zero =>
    intro t l μ ht hl h hm
    obtain rfl : t = aX α := by omega
    have cX : μ 82 13 = nI (aX α) := h.1.2.2.1.trans ((mset_other (by omega)).trans hf.1.2.2.1.1)
    obtain ⟨g1, g2⟩ := vm_law h (α 0 3)
    rw [law_law, law_self] at g1
    refine sg_X8_laws_57 hf ⟨fun _ => ⟨rfl, g1, hm.tr g2⟩, fun c => ?_⟩
    rw [cX] at c
    exact absurd (nI_le (Nat.le_refl _) (by omega)) c
  | succ j ih =>
    intro t l μ ht hl h hm
    have cX : μ 82 13 = nI (aX α) := h.1.2.2.1.trans ((mset_other (by omega)).trans hf.1.2.2.1.1)
    have hft := wf_law hf (l := t) (by omega)
    obtain ⟨g1, g2⟩ := vm_law h (nI t)
    rw [law_law] at g1
    refine sg_X8_laws_57 hft ⟨fun c => ?_, fun _ => ?_⟩
    · rw [cX] at c
      exact absurd c (nI_ge (by omega) (by omega))
    · rw [ix_nI (i := s) (by omega), ix_nI (i := a) (by omega)]
      have e15 : lawA α (nI t) 15 s = 7 := by
        have : lawA α (nI t) 15 = α 15 := mset_ne (by omega)
        rw [this]
        exact h7
      refine ⟨⟨g1, inB_of (m := 3) (by omega) (by omega), e15, inB_7 ha⟩, fun x ν hx => ?_⟩
      obtain ⟨ex, ho⟩ := hx
      obtain ⟨h1, k1⟩ := g1.o hft ho
      have hh := ih (t + 1) t ν (by omega) (by omega) h1 ((hm.tr g2).tr k1)
      rw [lwA_succ, ← nI_1] at hh
      rw [ex]
      refine ⟨fun c => ?_, fun c y hy => ?_⟩
      · rw [if_neg (by rw [bi_F c]; decide)] at hh
        rw [Int32.or_zero]
        exact hh
      · rw [if_pos (bi_T c)] at hh
        rw [hy]
        exact hh
theorem pb_X8_laws {G : GW} {α μ : Mem} (hf : WF α) (h : VM α μ) (x1 x2 : Int32) : pubM G mX8_laws 6 [(0, .ref 82), (1, .int x1), (2, .int x2)] α μ (.int (sp_laws α x1 x2)) α := by
  have hk := keepX.rf μ
  have cL : μ 82 14 = α 0 3 := h.1.2.2.2.1
  refine sg_X8_laws_0 hf ⟨fun c => ?_, fun c => ?_⟩
  · obtain ⟨s, hs, rfl⟩ := inB_s c
    obtain ⟨e1, e2, -⟩ := h.sh hs
    unfold sp_laws refA
    rw [if_pos c, ix_nI (i := s) (by omega), e1, e2, sort_of hf hs, cL]
    have v4 : vp_in (nI s) 4 := vp_nI hs (by omega)
    refine ⟨v4, fun d => ⟨v4, fun e => ⟨fun g => ?_, fun g => ?_⟩, fun e => ?_⟩, fun d => ?_⟩
    · rw [if_neg d, if_pos e, if_pos rfl, if_pos g]
      obtain ⟨a, ha, rfl⟩ := inB_p g
      rw [ix_nI (i := a) (by omega)]
      have e3 : α 0 3 = nI (aL α) := hf.1.2.2.2.1.1
      exact lp_X8_laws hf ha hs e (aX α) 0 (aL α) μ (by omega) hf.1.2.2.2.1.2 (by rw [← e3, law_self]; exact h) hk
    · rw [if_neg d, if_pos e, if_pos rfl, if_neg (by rw [g]; decide)]
      exact ⟨rfl, h, hk⟩
    · rw [if_neg d, if_neg e, if_neg (by decide)]
      exact ⟨rfl, h, hk⟩
    · rw [if_pos (Decidable.not_not.mp d), if_neg (by decide)]
      exact ⟨rfl, h, hk⟩
  · unfold sp_laws refA
    have cf : ¬ inB x1 0 3 = true := by rw [c]; decide
    rw [if_neg cf, if_neg (show ¬ ((-2 : Int32) = 0) by decide)]
    exact ⟨rfl, h, hk⟩
/-! sheets -/
def shN (μ : Mem) (s : Nat) (sort z : Int32) (f : Nat → Int32) (ν : Mem) : Prop := (∀ a, ¬ (109 ≤ a ∧ a ≤ 111) → ν a = μ a) ∧ (ν 109 s = sort ∧ ν 110 s = z ∧ ∀ k, k < 40 → ν 111 (40 * s + k) = f k) ∧ ∀ t, t < 4 → t ≠ s → ν 109 t = μ 109 t ∧ ν 110 t = μ 110 t ∧ ∀ k, k < 40 → ν 111 (40 * t + k) = μ 111 (40 * t + k)
theorem vm_sh {α β μ ν : Mem} (h : VM α μ) {s : Nat} {f : Nat → Int32} {sort z : Int32} (hn : shN μ s sort z f ν) (e : ∀ r, (r < 14 ∨ 16 < r) → β r = α r) (new : β 14 s = sort ∧ β 15 s = z ∧ ∀ k, k < 40 → β 16 (40 * s + k) = f k) (old : ∀ t, t < 4 → t ≠ s → β 14 t = α 14 t ∧ β 15 t = α 15 t ∧ ∀ k, k < 40 → β 16 (40 * t + k) = α 16 (40 * t + k)) : VM β ν ∧ keepX μ ν := by
  obtain ⟨vc, vw, vr, vh, vt, vx, vi, vs, vk⟩ := h
  obtain ⟨n, n1, n2⟩ := hn
  have e0 : ∀ k, k < 100 → β 0 k = α 0 k := fun k _ => by rw [e 0 (by omega)]
  have n0 : ∀ k, k < 100 → ν 82 k = μ 82 k := fun k _ => by rw [n 82 (by omega)]
  refine ⟨⟨?_, ?_, ?_, ?_, ?_, ?_, ?_, ?_, ?_⟩, fun a ha => n a (by omega)⟩
  · exact vc.eq (fun k _ => e0 k (by omega)) (fun k _ => n0 k (by omega))
  · exact vw.eq (e 1 (by omega)) (n 83 (by omega))
  · exact vr.eq (e0 1 (by omega)) (e 2 (by omega)) (e 3 (by omega)) (n 84 (by omega)) (n 85 (by omega))
  · exact vh.eq (e0 0 (by omega)) (fun f _ => e (4 + f) (by omega)) (fun f _ => n (86 + f) (by omega))
  · exact vt.eq (e0 4 (by omega)) (e 10 (by omega)) (n 92 (by omega))
  · exact vx.eq (e0 2 (by omega)) (e 17 (by omega)) (e 18 (by omega)) (n 93 (by omega)) (n 94 (by omega))
  · exact vi.eq (e 11 (by omega)) (e 12 (by omega)) (e 13 (by omega)) (fun k _ => n0 k (by omega)) (n 107 (by omega)) (n 108 (by omega))
  · intro t ht
    by_cases c : t = s
    · rw [c, n1.1, n1.2.1, new.1, new.2.1]
      refine ⟨rfl, rfl, fun k hk => ?_⟩
      rw [n1.2.2 k hk, new.2.2 k hk]
    · obtain ⟨o1, o2, o3⟩ := old t ht c
      obtain ⟨p1, p2, p3⟩ := n2 t ht c
      obtain ⟨s1, s2, s3⟩ := vs t ht
      rw [p1, p2, o1, o2]
      exact ⟨s1, s2, fun k hk => by rw [p3 k hk, o3 k hk]; exact s3 k hk⟩
  · exact vk.eq (n 95 (by omega)) (n 96 (by omega))
theorem vm_shA {α μ ν : Mem} (h : VM α μ) {s : Nat} {f : Nat → Int32} {sort z : Int32} (hn : shN μ s sort z f ν) : VM (shA α s sort z f) ν ∧ keepX μ ν := vm_sh h hn (fun r hr => shA_row hr) shA_new (fun t _ ht => shA_old ht)
def shR (μ : Mem) (s sort n : Int32) (ν : Mem) : Prop := if inB s 0 3 = true ∧ inB sort (-1) 2 = true ∧ (sort = -1 ∨ (n ≤ 40 ∧ 0 ≤ n)) then shN μ s.toNatClampNeg sort (if sort = -1 then 0 else n) (fun _ => 0) ν else ν = μ
theorem sg_X8_sheet_0 {G : GW} {K : Option Value → Mem → Prop} {μ : Mem} {x1 x2 x3 : Int32}  (h : (((inB x1 0 3) = false) → K (some (.int (-2))) μ) ∧ (((inB x1 0 3) = true) → (((inB x2 ((-1) : Int32) (2 : Int32)) = false) → K (some (.int (-2))) μ) ∧ (((inB x2 ((-1) : Int32) (2 : Int32)) = true) → ((x2 < 0) → ((x2 < 0) → (vp_in x1 4) ∧ ((0 ≤ x2) → (vp_in x1 4) ∧ Ev2 G mX8_sheet 3 65 [(0, .ref 82), (1, .int x1), (4, .int 0)] [] (mset (mset μ 109 x1.toNatClampNeg x2) 110 x1.toNatClampNeg x3) K) ∧ ((¬ (0 ≤ x2)) → (vp_in x1 4) ∧ Ev2 G mX8_sheet 3 65 [(0, .ref 82), (1, .int x1), (4, .int 0)] [] (mset (mset μ 109 x1.toNatClampNeg x2) 110 x1.toNatClampNeg 0) K)) ∧ ((¬ (x2 < 0)) → ((0 ≤ x3) → (vp_in x1 4) ∧ ((0 ≤ x2) → (vp_in x1 4) ∧ Ev2 G mX8_sheet 3 65 [(0, .ref 82), (1, .int x1), (4, .int 0)] [] (mset (mset μ 109 x1.toNatClampNeg x2) 110 x1.toNatClampNeg x3) K) ∧ ((¬ (0 ≤ x2)) → (vp_in x1 4) ∧ Ev2 G mX8_sheet 3 65 [(0, .ref 82), (1, .int x1), (4, .int 0)] [] (mset (mset μ 109 x1.toNatClampNeg x2) 110 x1.toNatClampNeg 0) K)) ∧ ((¬ (0 ≤ x3)) → K (some (.int (-14))) μ))) ∧ ((¬ (x2 < 0)) → ((x3 ≤ 40) → ((x2 < 0) → (vp_in x1 4) ∧ ((0 ≤ x2) → (vp_in x1 4) ∧ Ev2 G mX8_sheet 3 65 [(0, .ref 82), (1, .int x1), (4, .int 0)] [] (mset (mset μ 109 x1.toNatClampNeg x2) 110 x1.toNatClampNeg x3) K) ∧ ((¬ (0 ≤ x2)) → (vp_in x1 4) ∧ Ev2 G mX8_sheet 3 65 [(0, .ref 82), (1, .int x1), (4, .int 0)] [] (mset (mset μ 109 x1.toNatClampNeg x2) 110 x1.toNatClampNeg 0) K)) ∧ ((¬ (x2 < 0)) → ((0 ≤ x3) → (vp_in x1 4) ∧ ((0 ≤ x2) → (vp_in x1 4) ∧ Ev2 G mX8_sheet 3 65 [(0, .ref 82), (1, .int x1), (4, .int 0)] [] (mset (mset μ 109 x1.toNatClampNeg x2) 110 x1.toNatClampNeg x3) K) ∧ ((¬ (0 ≤ x2)) → (vp_in x1 4) ∧ Ev2 G mX8_sheet 3 65 [(0, .ref 82), (1, .int x1), (4, .int 0)] [] (mset (mset μ 109 x1.toNatClampNeg x2) 110 x1.toNatClampNeg 0) K)) ∧ ((¬ (0 ≤ x3)) → K (some (.int (-14))) μ))) ∧ ((¬ (x3 ≤ 40)) → K (some (.int (-2))) μ))))) : Ev2 G mX8_sheet 3 0 [(0, .ref 82), (1, .int x1), (2, .int x2), (3, .int x3)] [] μ K := by
  refine ev_iload_n dX8_sheet_0 1 rfl ?_
  refine e2_callS (w := .int (bi (inB x1 0 3))) (μ1 := μ) (as := [.int x1]) (st := []) ok_X8_isSheet sv_X8_isSheet ml_8_288 dX8_sheet_1 rfl rfl (Nat.le_of_ble_eq_true rfl) (Nat.le_of_ble_eq_true rfl) (by decide) (ct_X8_isSheet (x1) μ) ?_
  refine ev_ifeq_bi (tgt := 26) dX8_sheet_4 rfl (fun c1 => ?_) (fun c1 => ?_)
  · have h2 := h.1 c1
    refine ev_bipush (v := (-2)) dX8_sheet_26 rfl ?_
    exact ev_ireturn dX8_sheet_28 rfl True.intro rfl rfl ⟨rfl, h2⟩
  · have h3 := h.2 c1
    refine ev_iload_n dX8_sheet_7 2 rfl ?_
    refine ev_iconst (v := (-1)) dX8_sheet_8 rfl ?_
    refine ev_iconst (v := 2) dX8_sheet_9 rfl ?_
    refine e2_callS (w := .int (bi (inB x2 ((-1) : Int32) (2 : Int32)))) (μ1 := μ) (as := [.int x2, .int (-1), .int 2]) (st := []) ok_X8_isIn sv_X8_isIn ml_8_3 dX8_sheet_10 rfl rfl (Nat.le_of_ble_eq_true rfl) (Nat.le_of_ble_eq_true rfl) (by decide) (ct_X8_isIn (x2) ((-1)) (2) μ) ?_
    refine ev_ifeq_bi (tgt := 26) dX8_sheet_13 rfl (fun c4 => ?_) (fun c4 => ?_)
    · have h5 := h3.1 c4
      refine ev_bipush (v := (-2)) dX8_sheet_26 rfl ?_
      exact ev_ireturn dX8_sheet_28 rfl True.intro rfl rfl ⟨rfl, h5⟩
    · have h6 := h3.2 c4
      refine ev_iload_n dX8_sheet_16 2 rfl ?_
      refine ev_if_lt (tgt := 29) dX8_sheet_17 rfl (fun c7 => ?_) (fun c7 => ?_)
      · have h8 := h6.1 c7
        refine ev_iload_n dX8_sheet_29 2 rfl ?_
        refine ev_if_lt (tgt := 40) dX8_sheet_30 rfl (fun c10 => ?_) (fun c10 => ?_)
        · have h11 := h8.1 c10
          refine ev_aload_n dX8_sheet_40 0 rfl (by decide) ?_
          refine ev_getR' fl_8_225 rfl kd_82 rf_82_45 dX8_sheet_41 ?_
          refine ev_iload_n dX8_sheet_44 1 rfl ?_
          refine ev_iload_n dX8_sheet_45 2 rfl ?_
          have p13 := h11.1
          have h14 := h11.2
          refine ev_iastore' (j := x1.toNatClampNeg) kd_109 ln_109 p13 rfl dX8_sheet_46 ?_
          refine ev_aload_n dX8_sheet_47 0 rfl (by decide) ?_
          refine ev_getR' fl_8_228 rfl kd_82 rf_82_46 dX8_sheet_48 ?_
          refine ev_iload_n dX8_sheet_51 1 rfl ?_
          refine ev_iload_n dX8_sheet_52 2 rfl ?_
          refine ev_if_ge (tgt := 60) dX8_sheet_53 rfl (fun c15 => ?_) (fun c15 => ?_)
          · have h16 := h14.1 c15
            refine ev_iload_n dX8_sheet_60 3 rfl ?_
            have p18 := h16.1
            have h19 := h16.2
            refine ev_iastore' (j := x1.toNatClampNeg) kd_110 ln_110 p18 rfl dX8_sheet_61 ?_
            refine ev_iconst (v := 0) dX8_sheet_62 rfl ?_
            refine ev_istore (lv' := [(0, .ref 82), (1, .int x1), (2, .int x2), (3, .int x3), (4, .int 0)]) dX8_sheet_63 (by decide) [1, 2, 3, 4, 0] rfl ?_
            refine EvW.less [0, 1, 4] (lv' := [(0, .ref 82), (1, .int x1), (4, .int 0)]) rfl ?_
            exact h19
          · have h17 := h14.2 c15
            refine ev_iconst (v := 0) dX8_sheet_56 rfl ?_
            refine ev_goto (tgt := 61) dX8_sheet_57 rfl ?_
            have p20 := h17.1
            have h21 := h17.2
            refine ev_iastore' (j := x1.toNatClampNeg) kd_110 ln_110 p20 rfl dX8_sheet_61 ?_
            refine ev_iconst (v := 0) dX8_sheet_62 rfl ?_
            refine ev_istore (lv' := [(0, .ref 82), (1, .int x1), (2, .int x2), (3, .int x3), (4, .int 0)]) dX8_sheet_63 (by decide) [1, 2, 3, 4, 0] rfl ?_
            refine EvW.less [0, 1, 4] (lv' := [(0, .ref 82), (1, .int x1), (4, .int 0)]) rfl ?_
            exact h21
        · have h12 := h8.2 c10
          refine ev_iload_n dX8_sheet_33 3 rfl ?_
          refine ev_if_ge (tgt := 40) dX8_sheet_34 rfl (fun c22 => ?_) (fun c22 => ?_)
          · have h23 := h12.1 c22
            refine ev_aload_n dX8_sheet_40 0 rfl (by decide) ?_
            refine ev_getR' fl_8_225 rfl kd_82 rf_82_45 dX8_sheet_41 ?_
            refine ev_iload_n dX8_sheet_44 1 rfl ?_
            refine ev_iload_n dX8_sheet_45 2 rfl ?_
            have p25 := h23.1
            have h26 := h23.2
            refine ev_iastore' (j := x1.toNatClampNeg) kd_109 ln_109 p25 rfl dX8_sheet_46 ?_
            refine ev_aload_n dX8_sheet_47 0 rfl (by decide) ?_
            refine ev_getR' fl_8_228 rfl kd_82 rf_82_46 dX8_sheet_48 ?_
            refine ev_iload_n dX8_sheet_51 1 rfl ?_
            refine ev_iload_n dX8_sheet_52 2 rfl ?_
            refine ev_if_ge (tgt := 60) dX8_sheet_53 rfl (fun c27 => ?_) (fun c27 => ?_)
            · have h28 := h26.1 c27
              refine ev_iload_n dX8_sheet_60 3 rfl ?_
              have p30 := h28.1
              have h31 := h28.2
              refine ev_iastore' (j := x1.toNatClampNeg) kd_110 ln_110 p30 rfl dX8_sheet_61 ?_
              refine ev_iconst (v := 0) dX8_sheet_62 rfl ?_
              refine ev_istore (lv' := [(0, .ref 82), (1, .int x1), (2, .int x2), (3, .int x3), (4, .int 0)]) dX8_sheet_63 (by decide) [1, 2, 3, 4, 0] rfl ?_
              refine EvW.less [0, 1, 4] (lv' := [(0, .ref 82), (1, .int x1), (4, .int 0)]) rfl ?_
              exact h31
            · have h29 := h26.2 c27
              refine ev_iconst (v := 0) dX8_sheet_56 rfl ?_
              refine ev_goto (tgt := 61) dX8_sheet_57 rfl ?_
              have p32 := h29.1
              have h33 := h29.2
              refine ev_iastore' (j := x1.toNatClampNeg) kd_110 ln_110 p32 rfl dX8_sheet_61 ?_
              refine ev_iconst (v := 0) dX8_sheet_62 rfl ?_
              refine ev_istore (lv' := [(0, .ref 82), (1, .int x1), (2, .int x2), (3, .int x3), (4, .int 0)]) dX8_sheet_63 (by decide) [1, 2, 3, 4, 0] rfl ?_
              refine EvW.less [0, 1, 4] (lv' := [(0, .ref 82), (1, .int x1), (4, .int 0)]) rfl ?_
              exact h33
          · have h24 := h12.2 c22
            refine ev_bipush (v := (-14)) dX8_sheet_37 rfl ?_
            exact ev_ireturn dX8_sheet_39 rfl True.intro rfl rfl ⟨rfl, h24⟩
      · have h9 := h6.2 c7
        refine ev_iload_n dX8_sheet_20 3 rfl ?_
        refine ev_bipush (v := 40) dX8_sheet_21 rfl ?_
        refine ev_icmp_le (tgt := 29) dX8_sheet_23 rfl (fun c34 => ?_) (fun c34 => ?_)
        · have h35 := h9.1 c34
          refine ev_iload_n dX8_sheet_29 2 rfl ?_
          refine ev_if_lt (tgt := 40) dX8_sheet_30 rfl (fun c37 => ?_) (fun c37 => ?_)
          · have h38 := h35.1 c37
            refine ev_aload_n dX8_sheet_40 0 rfl (by decide) ?_
            refine ev_getR' fl_8_225 rfl kd_82 rf_82_45 dX8_sheet_41 ?_
            refine ev_iload_n dX8_sheet_44 1 rfl ?_
            refine ev_iload_n dX8_sheet_45 2 rfl ?_
            have p40 := h38.1
            have h41 := h38.2
            refine ev_iastore' (j := x1.toNatClampNeg) kd_109 ln_109 p40 rfl dX8_sheet_46 ?_
            refine ev_aload_n dX8_sheet_47 0 rfl (by decide) ?_
            refine ev_getR' fl_8_228 rfl kd_82 rf_82_46 dX8_sheet_48 ?_
            refine ev_iload_n dX8_sheet_51 1 rfl ?_
            refine ev_iload_n dX8_sheet_52 2 rfl ?_
            refine ev_if_ge (tgt := 60) dX8_sheet_53 rfl (fun c42 => ?_) (fun c42 => ?_)
            · have h43 := h41.1 c42
              refine ev_iload_n dX8_sheet_60 3 rfl ?_
              have p45 := h43.1
              have h46 := h43.2
              refine ev_iastore' (j := x1.toNatClampNeg) kd_110 ln_110 p45 rfl dX8_sheet_61 ?_
              refine ev_iconst (v := 0) dX8_sheet_62 rfl ?_
              refine ev_istore (lv' := [(0, .ref 82), (1, .int x1), (2, .int x2), (3, .int x3), (4, .int 0)]) dX8_sheet_63 (by decide) [1, 2, 3, 4, 0] rfl ?_
              refine EvW.less [0, 1, 4] (lv' := [(0, .ref 82), (1, .int x1), (4, .int 0)]) rfl ?_
              exact h46
            · have h44 := h41.2 c42
              refine ev_iconst (v := 0) dX8_sheet_56 rfl ?_
              refine ev_goto (tgt := 61) dX8_sheet_57 rfl ?_
              have p47 := h44.1
              have h48 := h44.2
              refine ev_iastore' (j := x1.toNatClampNeg) kd_110 ln_110 p47 rfl dX8_sheet_61 ?_
              refine ev_iconst (v := 0) dX8_sheet_62 rfl ?_
              refine ev_istore (lv' := [(0, .ref 82), (1, .int x1), (2, .int x2), (3, .int x3), (4, .int 0)]) dX8_sheet_63 (by decide) [1, 2, 3, 4, 0] rfl ?_
              refine EvW.less [0, 1, 4] (lv' := [(0, .ref 82), (1, .int x1), (4, .int 0)]) rfl ?_
              exact h48
          · have h39 := h35.2 c37
            refine ev_iload_n dX8_sheet_33 3 rfl ?_
            refine ev_if_ge (tgt := 40) dX8_sheet_34 rfl (fun c49 => ?_) (fun c49 => ?_)
            · have h50 := h39.1 c49
              refine ev_aload_n dX8_sheet_40 0 rfl (by decide) ?_
              refine ev_getR' fl_8_225 rfl kd_82 rf_82_45 dX8_sheet_41 ?_
              refine ev_iload_n dX8_sheet_44 1 rfl ?_
              refine ev_iload_n dX8_sheet_45 2 rfl ?_
              have p52 := h50.1
              have h53 := h50.2
              refine ev_iastore' (j := x1.toNatClampNeg) kd_109 ln_109 p52 rfl dX8_sheet_46 ?_
              refine ev_aload_n dX8_sheet_47 0 rfl (by decide) ?_
              refine ev_getR' fl_8_228 rfl kd_82 rf_82_46 dX8_sheet_48 ?_
              refine ev_iload_n dX8_sheet_51 1 rfl ?_
              refine ev_iload_n dX8_sheet_52 2 rfl ?_
              refine ev_if_ge (tgt := 60) dX8_sheet_53 rfl (fun c54 => ?_) (fun c54 => ?_)
              · have h55 := h53.1 c54
                refine ev_iload_n dX8_sheet_60 3 rfl ?_
                have p57 := h55.1
                have h58 := h55.2
                refine ev_iastore' (j := x1.toNatClampNeg) kd_110 ln_110 p57 rfl dX8_sheet_61 ?_
                refine ev_iconst (v := 0) dX8_sheet_62 rfl ?_
                refine ev_istore (lv' := [(0, .ref 82), (1, .int x1), (2, .int x2), (3, .int x3), (4, .int 0)]) dX8_sheet_63 (by decide) [1, 2, 3, 4, 0] rfl ?_
                refine EvW.less [0, 1, 4] (lv' := [(0, .ref 82), (1, .int x1), (4, .int 0)]) rfl ?_
                exact h58
              · have h56 := h53.2 c54
                refine ev_iconst (v := 0) dX8_sheet_56 rfl ?_
                refine ev_goto (tgt := 61) dX8_sheet_57 rfl ?_
                have p59 := h56.1
                have h60 := h56.2
                refine ev_iastore' (j := x1.toNatClampNeg) kd_110 ln_110 p59 rfl dX8_sheet_61 ?_
                refine ev_iconst (v := 0) dX8_sheet_62 rfl ?_
                refine ev_istore (lv' := [(0, .ref 82), (1, .int x1), (2, .int x2), (3, .int x3), (4, .int 0)]) dX8_sheet_63 (by decide) [1, 2, 3, 4, 0] rfl ?_
                refine EvW.less [0, 1, 4] (lv' := [(0, .ref 82), (1, .int x1), (4, .int 0)]) rfl ?_
                exact h60
            · have h51 := h39.2 c49
              refine ev_bipush (v := (-14)) dX8_sheet_37 rfl ?_
              exact ev_ireturn dX8_sheet_39 rfl True.intro rfl rfl ⟨rfl, h51⟩
        · have h36 := h9.2 c34
          refine ev_bipush (v := (-2)) dX8_sheet_26 rfl ?_
          exact ev_ireturn dX8_sheet_28 rfl True.intro rfl rfl ⟨rfl, h36⟩
theorem sg_X8_sheet_65 {G : GW} {K : Option Value → Mem → Prop} {μ : Mem} {x1 x4 : Int32}  (h : ((40 ≤ x4) → K (some (.int 1)) μ) ∧ ((¬ (40 ≤ x4)) → (vp_in ((40 * x1) + x4) 160) ∧ Ev2 G mX8_sheet 3 65 [(0, .ref 82), (1, .int x1), (4, .int (x4 + 1))] [] (mset μ 111 ((40 * x1) + x4).toNatClampNeg 0) K)) : Ev2 G mX8_sheet 3 65 [(0, .ref 82), (1, .int x1), (4, .int x4)] [] μ K := by
  refine ev_iload dX8_sheet_65 2 rfl ?_
  refine ev_bipush (v := 40) dX8_sheet_67 rfl ?_
  refine ev_icmp_ge (tgt := 91) dX8_sheet_69 rfl (fun c1 => ?_) (fun c1 => ?_)
  · have h2 := h.1 c1
    refine ev_iconst (v := 1) dX8_sheet_91 rfl ?_
    exact ev_ireturn dX8_sheet_92 rfl True.intro rfl rfl ⟨rfl, h2⟩
  · have h3 := h.2 c1
    refine ev_aload_n dX8_sheet_72 0 rfl (by decide) ?_
    refine ev_getR' fl_8_231 rfl kd_82 rf_82_47 dX8_sheet_73 ?_
    refine ev_bipush (v := 40) dX8_sheet_76 rfl ?_
    refine ev_iload_n dX8_sheet_78 1 rfl ?_
    refine ev_imul dX8_sheet_79 ?_
    refine ev_iload dX8_sheet_80 2 rfl ?_
    refine ev_iadd dX8_sheet_82 ?_
    refine ev_iconst (v := 0) dX8_sheet_83 rfl ?_
    have p4 := h3.1
    have h5 := h3.2
    refine ev_iastore' (j := ((40 * x1) + x4).toNatClampNeg) kd_111 ln_111 p4 rfl dX8_sheet_84 ?_
    refine ev_iinc (v := (x4 + 1)) (lv' := [(0, .ref 82), (1, .int x1), (4, .int (x4 + 1))]) dX8_sheet_85 2 rfl rfl (by decide) [1, 2, 0] rfl ?_
    refine ev_goto (tgt := 65) dX8_sheet_88 rfl ?_
    exact h5
theorem lp_X8_sheet {G : GW} {μ : Mem} {s : Nat} (hs : s < 4) {sort z : Int32} : ∀ j i (ν : Mem), i + j = 40 → ((∀ a, ¬ (109 ≤ a ∧ a ≤ 111) → ν a = μ a) ∧ (ν 109 s = sort ∧ ν 110 s = z ∧ ∀ k, k < i → ν 111 (40 * s + k) = 0) ∧ ∀ t, t < 4 → t ≠ s → ν 109 t = μ 109 t ∧ ν 110 t = μ 110 t ∧ ∀ k, k < 40 → ν 111 (40 * t + k) = μ 111 (40 * t + k)) → Ev2 G mX8_sheet 3 65 [(0, .ref 82), (1, .int (nI s)), (4, .int (nI i))] [] ν (fun v μ' => v = some (.int 1) ∧ shN μ s sort z (fun _ => 0) μ') := by
  intro j
  induction j with
  | zero =>
    intro i ν hi h
    obtain rfl : i = 40 := hi
    exact sg_X8_sheet_65 ⟨fun _ => ⟨rfl, h⟩, fun c => absurd (nI_le (a := 40) (Nat.le_refl _) (by omega)) c⟩
  | succ j ih =>
    intro i ν hi h
    obtain ⟨n, ⟨n1, n2, n3⟩, n4⟩ := h
    obtain ⟨q1, q2⟩ := ix_40 hs (show i < 40 by omega)
    refine sg_X8_sheet_65 ⟨fun c => absurd c (nI_ge (b := 40) (by omega) (by omega)), fun _ => ⟨q1, ?_⟩⟩
    rw [q2, nI_1]
    refine ih (i + 1) _ (by omega) ⟨fun a ha => by rw [mset_ne (by omega)]; exact n a ha, ⟨by rw [mset_ne (by omega)]; exact n1, by rw [mset_ne (by omega)]; exact n2, fun k hk => ?_⟩, fun t ht hts => ?_⟩
    · by_cases c : k = i
      · rw [c, mset_same]
      · rw [mset_other (by omega)]
        exact n3 k (by omega)
    · rw [mset_ne (by omega), mset_ne (by omega)]
      obtain ⟨m1, m2, m3⟩ := n4 t ht hts
      exact ⟨m1, m2, fun k hk => by rw [mset_other (by omega)]; exact m3 k hk⟩
theorem ct_X8_sheet {G : GW} (x1 x2 x3 : Int32) (μ : Mem) : Ev2 G mX8_sheet 3 0 [(0, .ref 82), (1, .int x1), (2, .int x2), (3, .int x3)] [] μ (fun v μ' => ∃ x, v = some (.int x) ∧ (x = sp_sheet x1 x2 x3 ∧ shR μ x1 x2 x3 μ')) := by
  have go : ∀ z : Int32, inB x1 0 3 = true → inB x2 (-1) 2 = true → z = (if x2 = -1 then 0 else x3) → (x2 = -1 ∨ (x3 ≤ 40 ∧ 0 ≤ x3)) → Ev2 G mX8_sheet 3 65 [(0, .ref 82), (1, .int x1), (4, .int 0)] [] (mset (mset μ 109 x1.toNatClampNeg x2) 110 x1.toNatClampNeg z) (fun v μ' => ∃ x, v = some (.int x) ∧ (x = sp_sheet x1 x2 x3 ∧ shR μ x1 x2 x3 μ')) := by
    intro z c d hz hok
    obtain ⟨s, hs, rfl⟩ := inB_s c
    rw [ix_nI (by omega)]
    have L := lp_X8_sheet (G := G) (μ := μ) hs (sort := x2) (z := z) 40 0 (mset (mset μ 109 s x2) 110 s z) rfl ⟨fun a ha => by rw [mset_ne (by omega), mset_ne (by omega)], ⟨by rw [mset_ne (by omega), mset_same], by rw [mset_same], fun k hk => absurd hk (Nat.not_lt_zero k)⟩, fun t ht hts => ⟨by rw [mset_ne (by omega), mset_other (by omega)], by rw [mset_other (by omega), mset_ne (by omega)], fun k hk => by rw [mset_ne (by omega), mset_ne (by omega)]⟩⟩
    refine ev2_imp L ?_
    rintro v μ' ⟨rfl, hn⟩
    refine ⟨1, rfl, ?_, ?_⟩
    · unfold sp_sheet
      rw [if_pos c, if_pos d]
      rcases hok with e | ⟨e1, e2⟩
      · rw [if_pos e]
      · rw [if_pos e1, if_pos e2, ite_self]
    · unfold shR
      rw [if_pos ⟨c, d, hok⟩, ix_nI (by omega), ← hz]
      exact hn
  have no : ¬ (inB x1 0 3 = true ∧ inB x2 (-1) 2 = true ∧ (x2 = -1 ∨ (x3 ≤ 40 ∧ 0 ≤ x3))) → ∀ y, y = sp_sheet x1 x2 x3 → ∃ x, some (Value.int y) = some (.int x) ∧ (x = sp_sheet x1 x2 x3 ∧ shR μ x1 x2 x3 μ) := fun c y hy => ⟨y, rfl, hy, by unfold shR; rw [if_neg c]⟩
  refine sg_X8_sheet_0 ⟨fun c => no (by rw [c]; simp) _ (by unfold sp_sheet; rw [if_neg (by rw [c]; decide)]), fun c => ⟨fun d => no (by rw [d]; simp) _ (by unfold sp_sheet; rw [if_pos c, if_neg (by rw [d]; decide)]), fun d => ?_⟩⟩
  have v4 := vp4 c
  have neg : x2 < 0 ↔ x2 = -1 := by
    rcases sort_in d with e | e | e | e <;> rw [e] <;> decide
  have pos : 0 ≤ x2 ↔ ¬ x2 = -1 := by
    rcases sort_in d with e | e | e | e <;> rw [e] <;> decide
  rw [neg, pos]
  refine ⟨fun e => ⟨fun _ => ⟨v4, fun q => absurd e q, fun _ => ⟨v4, go 0 c d (by rw [if_pos e]) (Or.inl e)⟩⟩, fun q => absurd e q⟩, fun e => ⟨fun f => ⟨fun q => absurd q e, fun _ => ⟨fun g => ⟨v4, fun _ => ⟨v4, go x3 c d (by rw [if_neg e]) (Or.inr ⟨f, g⟩)⟩, fun q => absurd e q⟩, fun g => ?_⟩⟩, fun f => ?_⟩⟩
  · refine no (fun q => q.2.2.elim e (fun q => g q.2)) _ ?_
    unfold sp_sheet
    rw [if_pos c, if_pos d, if_neg e, if_pos f, if_neg g]
  · refine no (fun q => q.2.2.elim e (fun q => f q.1)) _ ?_
    unfold sp_sheet
    rw [if_pos c, if_pos d, if_neg e, if_neg f]
theorem pb_X8_sheet {G : GW} {α μ : Mem} (hf : WF α) (h : VM α μ) (x1 x2 x3 : Int32) : pubM G mX8_sheet 3 [(0, .ref 82), (1, .int x1), (2, .int x2), (3, .int x3)] α μ (.int (sp_sheet x1 x2 x3)) (sq_sheet α x1 x2 x3) := by
  refine ev2_imp (ct_X8_sheet x1 x2 x3 μ) ?_
  rintro v μ' ⟨x, rfl, rfl, hr⟩
  refine ⟨rfl, ?_⟩
  unfold shR at hr
  unfold sq_sheet
  by_cases c : inB x1 0 3 = true ∧ inB x2 (-1) 2 = true ∧ (x2 = -1 ∨ (x3 ≤ 40 ∧ 0 ≤ x3))
  · rw [if_pos c] at hr
    rw [if_pos ⟨c.1, c.2.1⟩]
    by_cases d : x2 = -1
    · rw [if_pos d] at hr ⊢
      rw [d] at hr
      exact vm_shA h hr
    · rw [if_neg d] at hr ⊢
      rw [if_pos (c.2.2.resolve_left d)]
      exact vm_shA h hr
  · rw [if_neg c] at hr
    subst hr
    by_cases d : inB x1 0 3 = true ∧ inB x2 (-1) 2 = true
    · rw [if_pos d, if_neg (fun q => c ⟨d.1, d.2, Or.inl q⟩), if_neg (fun q => c ⟨d.1, d.2, Or.inr q⟩)]
      exact ⟨h, keepX.rf _⟩
    · rw [if_neg d]
      exact ⟨h, keepX.rf _⟩
/-! cell -/
theorem vm_put {α μ : Mem} (h : VM α μ) {s k : Nat} (hk : k < 40) (v : Int32) : VM (mset α 16 (40 * s + k) v) (mset μ 111 (40 * s + k) v) ∧ keepX μ (mset μ 111 (40 * s + k) v) := by
  obtain ⟨vc, vw, vr, vh, vt, vx, vi, vs, vk⟩ := h
  have e : ∀ r, r ≠ 16 → mset α 16 (40 * s + k) v r = α r := fun r h => mset_ne h
  have e0 : ∀ j, j < 100 → mset α 16 (40 * s + k) v 0 j = α 0 j := fun k _ => by rw [e 0 (by omega)]
  have n : ∀ r, r ≠ 111 → mset μ 111 (40 * s + k) v r = μ r := fun r h => mset_ne h
  have n0 : ∀ j, j < 100 → mset μ 111 (40 * s + k) v 82 j = μ 82 j := fun k _ => by rw [n 82 (by omega)]
  refine ⟨⟨?_, ?_, ?_, ?_, ?_, ?_, ?_, ?_, ?_⟩, keepX.set (by omega)⟩
  · exact vc.eq (fun k _ => e0 k (by omega)) (fun k _ => n0 k (by omega))
  · exact vw.eq (e 1 (by omega)) (n 83 (by omega))
  · exact vr.eq (e0 1 (by omega)) (e 2 (by omega)) (e 3 (by omega)) (n 84 (by omega)) (n 85 (by omega))
  · exact vh.eq (e0 0 (by omega)) (fun f _ => e (4 + f) (by omega)) (fun f _ => n (86 + f) (by omega))
  · exact vt.eq (e0 4 (by omega)) (e 10 (by omega)) (n 92 (by omega))
  · exact vx.eq (e0 2 (by omega)) (e 17 (by omega)) (e 18 (by omega)) (n 93 (by omega)) (n 94 (by omega))
  · exact vi.eq (e 11 (by omega)) (e 12 (by omega)) (e 13 (by omega)) (fun k _ => n0 k (by omega)) (n 107 (by omega)) (n 108 (by omega))
  · intro t ht
    obtain ⟨s1, s2, s3⟩ := vs t ht
    rw [e 14 (by omega), e 15 (by omega), n 109 (by omega), n 110 (by omega)]
    refine ⟨s1, s2, fun j hj => ?_⟩
    by_cases c : 40 * t + j = 40 * s + k
    · rw [c, mset_same, mset_same]
    · rw [mset_other (by omega), mset_other (by omega)]
      exact s3 j hj
  · exact vk.eq (n 95 (by omega)) (n 96 (by omega))
theorem sg_X8_cell_0 {G : GW} {K : Option Value → Mem → Prop} {μ : Mem} {x1 x2 x3 : Int32}  (h : (((inB x1 0 3) = true) → (vp_in x1 4) ∧ ((0 ≤ (μ 109 x1.toNatClampNeg)) → (vp_in x1 4) ∧ (((inB x2 (0 : Int32) ((μ 110 x1.toNatClampNeg) - 1)) = true) → (vp_in x1 4) ∧ ((¬ (μ 109 x1.toNatClampNeg) = 0) → (vp_in x1 4) ∧ ((¬ (μ 109 x1.toNatClampNeg) = 1) → (vp_in ((40 * x1) + x2) 160) ∧ K (some (.int 1)) (mset μ 111 ((40 * x1) + x2).toNatClampNeg x3)) ∧ (((μ 109 x1.toNatClampNeg) = 1) → (vp_in ((40 * x1) + x2) 160) ∧ K (some (.int 1)) (mset μ 111 ((40 * x1) + x2).toNatClampNeg (Int32.toInt16 x3).toInt32))) ∧ (((μ 109 x1.toNatClampNeg) = 0) → (vp_in ((40 * x1) + x2) 160) ∧ K (some (.int 1)) (mset μ 111 ((40 * x1) + x2).toNatClampNeg (Int32.toInt8 x3).toInt32))) ∧ (((inB x2 (0 : Int32) ((μ 110 x1.toNatClampNeg) - 1)) = false) → K (some (.int (-12))) μ)) ∧ ((¬ (0 ≤ (μ 109 x1.toNatClampNeg))) → K (some (.int (-11))) μ)) ∧ (((inB x1 0 3) = false) → K (some (.int (-2))) μ)) : Ev2 G mX8_cell 3 0 [(0, .ref 82), (1, .int x1), (2, .int x2), (3, .int x3)] [] μ K := by
  refine ev_iload_n dX8_cell_0 1 rfl ?_
  refine e2_callS (w := .int (bi (inB x1 0 3))) (μ1 := μ) (as := [.int x1]) (st := []) ok_X8_isSheet sv_X8_isSheet ml_8_288 dX8_cell_1 rfl rfl (Nat.le_of_ble_eq_true rfl) (Nat.le_of_ble_eq_true rfl) (by decide) (ct_X8_isSheet (x1) μ) ?_
  refine ev_ifne_bi (tgt := 10) dX8_cell_4 rfl (fun c1 => ?_) (fun c1 => ?_)
  · have h2 := h.1 c1
    refine ev_aload_n dX8_cell_10 0 rfl (by decide) ?_
    refine ev_getR' fl_8_225 rfl kd_82 rf_82_45 dX8_cell_11 ?_
    refine ev_iload_n dX8_cell_14 1 rfl ?_
    have p4 := h2.1
    have h5 := h2.2
    refine ev_iaload' (v := (μ 109 x1.toNatClampNeg)) kd_109 ln_109 p4 rfl dX8_cell_15 ?_
    refine ev_if_ge (tgt := 22) dX8_cell_16 rfl (fun c6 => ?_) (fun c6 => ?_)
    · have h7 := h5.1 c6
      refine ev_iload_n dX8_cell_22 2 rfl ?_
      refine ev_iconst (v := 0) dX8_cell_23 rfl ?_
      refine ev_aload_n dX8_cell_24 0 rfl (by decide) ?_
      refine ev_getR' fl_8_228 rfl kd_82 rf_82_46 dX8_cell_25 ?_
      refine ev_iload_n dX8_cell_28 1 rfl ?_
      have p9 := h7.1
      have h10 := h7.2
      refine ev_iaload' (v := (μ 110 x1.toNatClampNeg)) kd_110 ln_110 p9 rfl dX8_cell_29 ?_
      refine ev_iconst (v := 1) dX8_cell_30 rfl ?_
      refine ev_isub dX8_cell_31 ?_
      refine e2_callS (w := .int (bi (inB x2 (0 : Int32) ((μ 110 x1.toNatClampNeg) - 1)))) (μ1 := μ) (as := [.int x2, .int 0, .int ((μ 110 x1.toNatClampNeg) - 1)]) (st := []) ok_X8_isIn sv_X8_isIn ml_8_3 dX8_cell_32 rfl rfl (Nat.le_of_ble_eq_true rfl) (Nat.le_of_ble_eq_true rfl) (by decide) (ct_X8_isIn (x2) (0) (((μ 110 x1.toNatClampNeg) - 1)) μ) ?_
      refine ev_ifne_bi (tgt := 41) dX8_cell_35 rfl (fun c11 => ?_) (fun c11 => ?_)
      · have h12 := h10.1 c11
        refine ev_aload_n dX8_cell_41 0 rfl (by decide) ?_
        refine ev_getR' fl_8_231 rfl kd_82 rf_82_47 dX8_cell_42 ?_
        refine ev_bipush (v := 40) dX8_cell_45 rfl ?_
        refine ev_iload_n dX8_cell_47 1 rfl ?_
        refine ev_imul dX8_cell_48 ?_
        refine ev_iload_n dX8_cell_49 2 rfl ?_
        refine ev_iadd dX8_cell_50 ?_
        refine ev_aload_n dX8_cell_51 0 rfl (by decide) ?_
        refine ev_getR' fl_8_225 rfl kd_82 rf_82_45 dX8_cell_52 ?_
        refine ev_iload_n dX8_cell_55 1 rfl ?_
        have p14 := h12.1
        have h15 := h12.2
        refine ev_iaload' (v := (μ 109 x1.toNatClampNeg)) kd_109 ln_109 p14 rfl dX8_cell_56 ?_
        refine ev_if_ne (tgt := 65) dX8_cell_57 rfl (fun c16 => ?_) (fun c16 => ?_)
        · have h17 := h15.1 c16
          refine ev_aload_n dX8_cell_65 0 rfl (by decide) ?_
          refine ev_getR' fl_8_225 rfl kd_82 rf_82_45 dX8_cell_66 ?_
          refine ev_iload_n dX8_cell_69 1 rfl ?_
          have p19 := h17.1
          have h20 := h17.2
          refine ev_iaload' (v := (μ 109 x1.toNatClampNeg)) kd_109 ln_109 p19 rfl dX8_cell_70 ?_
          refine ev_iconst (v := 1) dX8_cell_71 rfl ?_
          refine ev_icmp_ne (tgt := 80) dX8_cell_72 rfl (fun c21 => ?_) (fun c21 => ?_)
          · have h22 := h20.1 c21
            refine ev_iload_n dX8_cell_80 3 rfl ?_
            have p24 := h22.1
            have h25 := h22.2
            refine ev_iastore' (j := ((40 * x1) + x2).toNatClampNeg) kd_111 ln_111 p24 rfl dX8_cell_81 ?_
            refine ev_iconst (v := 1) dX8_cell_82 rfl ?_
            exact ev_ireturn dX8_cell_83 rfl True.intro rfl rfl ⟨rfl, h25⟩
          · have h23 := h20.2 c21
            refine ev_iload_n dX8_cell_75 3 rfl ?_
            refine ev_i2s dX8_cell_76 ?_
            refine ev_goto (tgt := 81) dX8_cell_77 rfl ?_
            have p26 := h23.1
            have h27 := h23.2
            refine ev_iastore' (j := ((40 * x1) + x2).toNatClampNeg) kd_111 ln_111 p26 rfl dX8_cell_81 ?_
            refine ev_iconst (v := 1) dX8_cell_82 rfl ?_
            exact ev_ireturn dX8_cell_83 rfl True.intro rfl rfl ⟨rfl, h27⟩
        · have h18 := h15.2 c16
          refine ev_iload_n dX8_cell_60 3 rfl ?_
          refine ev_i2b dX8_cell_61 ?_
          refine ev_goto (tgt := 81) dX8_cell_62 rfl ?_
          have p28 := h18.1
          have h29 := h18.2
          refine ev_iastore' (j := ((40 * x1) + x2).toNatClampNeg) kd_111 ln_111 p28 rfl dX8_cell_81 ?_
          refine ev_iconst (v := 1) dX8_cell_82 rfl ?_
          exact ev_ireturn dX8_cell_83 rfl True.intro rfl rfl ⟨rfl, h29⟩
      · have h13 := h10.2 c11
        refine ev_bipush (v := (-12)) dX8_cell_38 rfl ?_
        exact ev_ireturn dX8_cell_40 rfl True.intro rfl rfl ⟨rfl, h13⟩
    · have h8 := h5.2 c6
      refine ev_bipush (v := (-11)) dX8_cell_19 rfl ?_
      exact ev_ireturn dX8_cell_21 rfl True.intro rfl rfl ⟨rfl, h8⟩
  · have h3 := h.2 c1
    refine ev_bipush (v := (-2)) dX8_cell_7 rfl ?_
    exact ev_ireturn dX8_cell_9 rfl True.intro rfl rfl ⟨rfl, h3⟩
theorem pb_X8_cell {G : GW} {α μ : Mem} (hf : WF α) (h : VM α μ) (x1 x2 x3 : Int32) : pubM G mX8_cell 3 [(0, .ref 82), (1, .int x1), (2, .int x2), (3, .int x3)] α μ (.int (sp_cell α x1 x2)) (sq_cell α x1 x2 x3) := by
  have hk := keepX.rf μ
  refine sg_X8_cell_0 ⟨fun c => ?_, fun c => ?_⟩
  · obtain ⟨s, hs, rfl⟩ := inB_s c
    obtain ⟨e1, e2, -⟩ := h.sh hs
    obtain ⟨-, z, hz, ez⟩ := hf.2.2.2.2.2.2.2 s hs
    unfold sp_cell sq_cell
    rw [if_pos c, ix_nI (i := s) (by omega), e1, e2, sort_of hf hs, ez, holdsB_in hz]
    have v4 : vp_in (nI s) 4 := vp_nI hs (by omega)
    refine ⟨v4, fun d => ⟨v4, fun e => ⟨v4, ?_⟩, fun e => ?_⟩, fun d => ?_⟩
    · rw [if_neg d, if_pos e, if_pos ⟨c, d, e⟩]
      obtain ⟨k, hk, rfl⟩ := inB_lt (by omega) e
      obtain ⟨q1, q2⟩ := ix_40 hs (show k < 40 by omega)
      rw [q2, ix_nI (i := k) (by omega)]
      refine ⟨fun f => ⟨v4, fun g => ⟨q1, rfl, ?_⟩, fun g => ⟨q1, rfl, ?_⟩⟩, fun f => ⟨q1, rfl, ?_⟩⟩
      · unfold narF
        rw [if_neg f, if_neg g]
        exact vm_put h (by omega) x3
      · unfold narF
        rw [if_neg f, if_pos g]
        exact vm_put h (by omega) _
      · unfold narF
        rw [if_pos f]
        exact vm_put h (by omega) _
    · rw [if_neg d, if_neg (by rw [e]; decide), if_neg (by rw [e]; simp)]
      exact ⟨rfl, h, hk⟩
    · have d := Decidable.not_not.mp d
      rw [if_pos d, if_neg (fun q => q.2.1 d)]
      exact ⟨rfl, h, hk⟩
  · unfold sp_cell sq_cell
    rw [if_neg (by rw [c]; decide), if_neg (by rw [c]; simp)]
    exact ⟨rfl, h, hk⟩
/-! film -/
theorem sg_X8_film_0 {G : GW} {K : Option Value → Mem → Prop} {μ : Mem} {α : Mem} (hf : WF α) {x1 x2 : Int32}  (h : (((inB x1 0 3) = true) → (((inB x2 0 6) = true) → (VM α μ ∧ inB x2 0 6 = true ∧ setOK (aN α) ((((1 : Int32) <<< (μ 82 4 &&& 31)) - 1))) ∧ ∀ μ9 : Mem, (onlyM 99 105 μ μ9 ∧ eq7 (get4 101 μ9) (refS α ((((1 : Int32) <<< (μ 82 4 &&& 31)) - 1)) x2.toNatClampNeg)) → ∀ (z12 : Int32) (μ13 : Mem), (z12 = sp_sheet x1 (2 : Int32) (7 : Int32) ∧ shR μ9 x1 (2 : Int32) (7 : Int32) μ13) → Ev2 G mX8_film 5 40 [(0, .ref 82), (1, .int x1), (3, .int 0)] [] μ13 K) ∧ (((inB x2 0 6) = false) → K (some (.int (-5))) μ)) ∧ (((inB x1 0 3) = false) → K (some (.int (-2))) μ)) : Ev2 G mX8_film 5 0 [(0, .ref 82), (1, .int x1), (2, .int x2)] [] μ K := by
  refine ev_iload_n dX8_film_0 1 rfl ?_
  refine e2_callS (w := .int (bi (inB x1 0 3))) (μ1 := μ) (as := [.int x1]) (st := []) ok_X8_isSheet sv_X8_isSheet ml_8_288 dX8_film_1 rfl rfl (Nat.le_of_ble_eq_true rfl) (Nat.le_of_ble_eq_true rfl) (by decide) (ct_X8_isSheet (x1) μ) ?_
  refine ev_ifne_bi (tgt := 10) dX8_film_4 rfl (fun c1 => ?_) (fun c1 => ?_)
  · have h2 := h.1 c1
    refine ev_iload_n dX8_film_10 2 rfl ?_
    refine e2_callS (w := .int (bi (inB x2 0 6))) (μ1 := μ) (as := [.int x2]) (st := []) ok_X8_isPlace sv_X8_isPlace ml_8_18 dX8_film_11 rfl rfl (Nat.le_of_ble_eq_true rfl) (Nat.le_of_ble_eq_true rfl) (by decide) (ct_X8_isPlace (x2) μ) ?_
    refine ev_ifne_bi (tgt := 20) dX8_film_14 rfl (fun c4 => ?_) (fun c4 => ?_)
    · have h5 := h2.1 c4
      refine ev_aload_n dX8_film_20 0 rfl (by decide) ?_
      refine ev_iload_n dX8_film_21 2 rfl ?_
      refine ev_aload_n dX8_film_22 0 rfl (by decide) ?_
      refine e2_callV (w := .int ((((1 : Int32) <<< (μ 82 4 &&& 31)) - 1))) (μ1 := μ) (a := 82) (as := []) (st := [.int x2, .ref 82]) ok_X8_everyOne vi_X8_everyOne ml_8_262 hcl_8 kd_82 dX8_film_23 rfl rfl (Nat.le_of_ble_eq_true rfl) (Nat.le_of_ble_eq_true rfl) (by decide) (ct_X8_everyOne μ) ?_
      have p7 := h5.1
      have h8 := h5.2
      refine e2_callVrv (Rl := fun μ9 => onlyM 99 105 μ μ9 ∧ eq7 (get4 101 μ9) (refS α ((((1 : Int32) <<< (μ 82 4 &&& 31)) - 1)) x2.toNatClampNeg)) (a := 82) (as := [.int x2, .int ((((1 : Int32) <<< (μ 82 4 &&& 31)) - 1))]) (st := []) ok_X8_goFrom vi_X8_goFrom ml_8_256 hcl_8 kd_82 dX8_film_26 rfl rfl (Nat.le_of_ble_eq_true rfl) (Nat.le_of_ble_eq_true rfl) (by decide) (ct_X8_goFrom hf (x2) (((((1 : Int32) <<< (μ 82 4 &&& 31)) - 1))) μ p7) (fun μ9 r10 => ?_)
      have h11 := h8 μ9 r10
      refine ev_aload_n dX8_film_29 0 rfl (by decide) ?_
      refine ev_iload_n dX8_film_30 1 rfl ?_
      refine ev_iconst (v := 2) dX8_film_31 rfl ?_
      refine ev_bipush (v := 7) dX8_film_32 rfl ?_
      refine e2_callVr (Rl := fun z12 μ13 => z12 = sp_sheet x1 (2 : Int32) (7 : Int32) ∧ shR μ9 x1 (2 : Int32) (7 : Int32) μ13) (a := 82) (as := [.int x1, .int 2, .int 7]) (st := []) ok_X8_sheet vi_X8_sheet ml_8_295 hcl_8 kd_82 dX8_film_34 rfl rfl (Nat.le_of_ble_eq_true rfl) (Nat.le_of_ble_eq_true rfl) (by decide) (ct_X8_sheet (x1) (2) (7) μ9) (fun z12 μ13 r14 => ?_)
      have h15 := h11 z12 μ13 r14
      refine ev_pop dX8_film_37 rfl ?_
      refine ev_iconst (v := 0) dX8_film_38 rfl ?_
      refine ev_istore_n (lv' := [(0, .ref 82), (1, .int x1), (2, .int x2), (3, .int 0)]) dX8_film_39 (by decide) [1, 2, 3, 0] rfl ?_
      refine EvW.less [0, 1, 3] (lv' := [(0, .ref 82), (1, .int x1), (3, .int 0)]) rfl ?_
      exact h15
    · have h6 := h2.2 c4
      refine ev_bipush (v := (-5)) dX8_film_17 rfl ?_
      exact ev_ireturn dX8_film_19 rfl True.intro rfl rfl ⟨rfl, h6⟩
  · have h3 := h.2 c1
    refine ev_bipush (v := (-2)) dX8_film_7 rfl ?_
    exact ev_ireturn dX8_film_9 rfl True.intro rfl rfl ⟨rfl, h3⟩
theorem sg_X8_film_40 {G : GW} {K : Option Value → Mem → Prop} {μ : Mem} {α : Mem} (hf : WF α) {x1 x3 : Int32}  (h : ((7 ≤ x3) → K (some (.int 7)) μ) ∧ ((¬ (7 ≤ x3)) → (vp_in x3 7) ∧ (vp_in ((40 * x1) + x3) 160) ∧ Ev2 G mX8_film 5 40 [(0, .ref 82), (1, .int x1), (3, .int (x3 + 1))] [] (mset μ 111 ((40 * x1) + x3).toNatClampNeg (μ 101 x3.toNatClampNeg)) K)) : Ev2 G mX8_film 5 40 [(0, .ref 82), (1, .int x1), (3, .int x3)] [] μ K := by
  refine ev_iload_n dX8_film_40 2 rfl ?_
  refine ev_bipush (v := 7) dX8_film_41 rfl ?_
  refine ev_icmp_ge (tgt := 69) dX8_film_43 rfl (fun c1 => ?_) (fun c1 => ?_)
  · have h2 := h.1 c1
    refine ev_bipush (v := 7) dX8_film_69 rfl ?_
    exact ev_ireturn dX8_film_71 rfl True.intro rfl rfl ⟨rfl, h2⟩
  · have h3 := h.2 c1
    refine ev_aload_n dX8_film_46 0 rfl (by decide) ?_
    refine ev_getR' fl_8_231 rfl kd_82 rf_82_47 dX8_film_47 ?_
    refine ev_bipush (v := 40) dX8_film_50 rfl ?_
    refine ev_iload_n dX8_film_52 1 rfl ?_
    refine ev_imul dX8_film_53 ?_
    refine ev_iload_n dX8_film_54 2 rfl ?_
    refine ev_iadd dX8_film_55 ?_
    refine ev_aload_n dX8_film_56 0 rfl (by decide) ?_
    refine ev_getR' fl_8_201 rfl kd_82 rf_82_32 dX8_film_57 ?_
    refine ev_iload_n dX8_film_60 2 rfl ?_
    have p4 := h3.1
    have h5 := h3.2
    refine ev_iaload' (v := (μ 101 x3.toNatClampNeg)) kd_101 ln_101 p4 rfl dX8_film_61 ?_
    have p6 := h5.1
    have h7 := h5.2
    refine ev_iastore' (j := ((40 * x1) + x3).toNatClampNeg) kd_111 ln_111 p6 rfl dX8_film_62 ?_
    refine ev_iinc (v := (x3 + 1)) (lv' := [(0, .ref 82), (1, .int x1), (3, .int (x3 + 1))]) dX8_film_63 2 rfl rfl (by decide) [1, 2, 0] rfl ?_
    refine ev_goto (tgt := 40) dX8_film_66 rfl ?_
    exact h7
theorem lp_X8_film {G : GW} {α μ0 : Mem} {f : Nat → Int32} {s : Nat} (hs : s < 4) : ∀ j i (μ : Mem), i + j = 7 → VM (shA α s 2 7 (filF f i)) μ → keepX μ0 μ → (∀ k, k < 7 → μ 101 k = f k) → ∀ (hf : WF α), Ev2 G mX8_film 5 40 [(0, .ref 82), (1, .int (nI s)), (3, .int (nI i))] [] μ (fun v μ' => v = some (.int 7) ∧ VM (shA α s 2 7 (filF f 7)) μ' ∧ keepX μ0 μ') := by
  intro j
  induction j with
  | zero =>
    intro i μ hi h hm hq hf
    obtain rfl : i = 7 := hi
    exact sg_X8_film_40 hf ⟨fun _ => ⟨rfl, h, hm⟩, fun c => absurd (nI_le (a := 7) (Nat.le_refl _) (by omega)) c⟩
  | succ j ih =>
    intro i μ hi h hm hq hf
    obtain ⟨q1, q2⟩ := ix_40 hs (show i < 40 by omega)
    refine sg_X8_film_40 hf ⟨fun c => absurd c (nI_ge (b := 7) (by omega) (by omega)), fun _ => ⟨vp_nI (by omega) (by omega), q1, ?_⟩⟩
    rw [q2, ix_nI (i := i) (by omega), hq i (by omega), nI_1]
    obtain ⟨g1, g2⟩ := vm_put h (s := s) (k := i) (by omega) (f i)
    rw [filF_step (by omega)] at g1
    exact ih (i + 1) _ (by omega) g1 (hm.tr g2) (fun k hk => by rw [mset_ne (by omega)]; exact hq k hk) hf
theorem filF_cg {f g : Nat → Int32} {n : Nat} (h : ∀ k, k < n → f k = g k) : filF f n = filF g n := by
  funext k
  unfold filF
  split
  · exact h k (by omega)
  · rfl
theorem pb_X8_film {G : GW} {α μ : Mem} (hf : WF α) (h : VM α μ) (x1 x2 : Int32) : pubM G mX8_film 5 [(0, .ref 82), (1, .int x1), (2, .int x2)] α μ (.int (sp_film x1 x2)) (sq_film α x1 x2) := by
  have hk := keepX.rf μ
  have hs0 := allA_ok hf.1
  refine sg_X8_film_0 hf ?_
  rw [h.all]
  unfold sp_film sq_film
  refine ⟨fun c => ⟨fun d => ⟨⟨h, d, hs0⟩, fun ν hν y ξ hy => ?_⟩, fun d => ?_⟩, fun c => ?_⟩
  · rw [if_pos c, if_pos d, if_pos ⟨c, d⟩]
    obtain ⟨h1, k1⟩ := h.o hf hν.1
    obtain ⟨-, hr⟩ := hy
    unfold shR at hr
    rw [if_pos ⟨c, by decide, Or.inr ⟨by decide, by decide⟩⟩, if_neg (by decide)] at hr
    obtain ⟨h2, k2⟩ := vm_shA h1 hr
    obtain ⟨s, hs, rfl⟩ := inB_s c
    obtain ⟨a, ha, rfl⟩ := inB_p d
    rw [ix_nI (by omega)] at h2 hr hν
    rw [ix_nI (i := s) (by omega), ix_nI (i := a) (by omega)]
    have ef : filF (runA α (allA α) (-1) a 0) 7 = filF (refS α (allA α) a 0) 7 := filF_cg (fun k hk => ((run_all hf hs0 ha).2 k hk).1)
    rw [ef]
    refine lp_X8_film hs 7 0 ξ rfl (by rw [filF_0]; exact h2) (k1.tr k2) (fun k hk => ?_) hf
    rw [hr.1 101 (by omega)]
    exact hν.2 0 (by omega) k hk
  · rw [if_pos c, if_neg (by rw [d]; decide), if_neg (by rw [d]; simp)]
    exact ⟨rfl, h, hk⟩
  · rw [if_neg (by rw [c]; decide), if_neg (by rw [c]; simp)]
    exact ⟨rfl, h, hk⟩
