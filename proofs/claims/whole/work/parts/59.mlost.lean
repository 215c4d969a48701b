/-! ===== the reference's public methods: needed, again, doctor, lost ===== -/
theorem sg_X8_needed_0 {G : GW} {K : Option Value → Mem → Prop} {μ : Mem} {α : Mem} (hf : WF α) {x1 x2 x3 : Int32}  (h : (((inB x1 0 6) = false) → K (some (.int (-5))) μ) ∧ (((inB x1 0 6) = true) → (((inB x2 0 6) = true) → (((inB x3 (0 : Int32) (1 : Int32)) = true) → (VM α μ ∧ inB x1 0 6 = true ∧ inB x2 0 6 = true ∧ setOK (aN α) ((((1 : Int32) <<< (μ 82 4 &&& 31)) - 1))) ∧ ∀ (z12 : Int32) (μ13 : Mem), (z12 = soonA α ((((1 : Int32) <<< (μ 82 4 &&& 31)) - 1)) x1.toNatClampNeg x2.toNatClampNeg ∧ onlyM 99 105 μ μ13) → Ev2 G mX8_needed 6 47 [(0, .ref 82), (1, .int x1), (2, .int x2), (3, .int x3), (4, .int (-1)), (5, .int z12), (6, .int 0)] [] μ13 K) ∧ (((inB x3 (0 : Int32) (1 : Int32)) = false) → K (some (.int (-7))) μ)) ∧ (((inB x2 0 6) = false) → K (some (.int (-5))) μ))) : Ev2 G mX8_needed 6 0 [(0, .ref 82), (1, .int x1), (2, .int x2), (3, .int x3)] [] μ K := by
  refine ev_iload_n dX8_needed_0 1 rfl ?_
  refine e2_callS (w := .int (bi (inB x1 0 6))) (μ1 := μ) (as := [.int x1]) (st := []) ok_X8_isPlace sv_X8_isPlace ml_8_18 dX8_needed_1 rfl rfl (Nat.le_of_ble_eq_true rfl) (Nat.le_of_ble_eq_true rfl) (by decide) (ct_X8_isPlace (x1) μ) ?_
  refine ev_ifeq_bi (tgt := 14) dX8_needed_4 rfl (fun c1 => ?_) (fun c1 => ?_)
  · have h2 := h.1 c1
    refine ev_bipush (v := (-5)) dX8_needed_14 rfl ?_
    exact ev_ireturn dX8_needed_16 rfl True.intro rfl rfl ⟨rfl, h2⟩
  · have h3 := h.2 c1
    refine ev_iload_n dX8_needed_7 2 rfl ?_
    refine e2_callS (w := .int (bi (inB x2 0 6))) (μ1 := μ) (as := [.int x2]) (st := []) ok_X8_isPlace sv_X8_isPlace ml_8_18 dX8_needed_8 rfl rfl (Nat.le_of_ble_eq_true rfl) (Nat.le_of_ble_eq_true rfl) (by decide) (ct_X8_isPlace (x2) μ) ?_
    refine ev_ifne_bi (tgt := 17) dX8_needed_11 rfl (fun c4 => ?_) (fun c4 => ?_)
    · have h5 := h3.1 c4
      refine ev_iload_n dX8_needed_17 3 rfl ?_
      refine ev_iconst (v := 0) dX8_needed_18 rfl ?_
      refine ev_iconst (v := 1) dX8_needed_19 rfl ?_
      refine e2_callS (w := .int (bi (inB x3 (0 : Int32) (1 : Int32)))) (μ1 := μ) (as := [.int x3, .int 0, .int 1]) (st := []) ok_X8_isIn sv_X8_isIn ml_8_3 dX8_needed_20 rfl rfl (Nat.le_of_ble_eq_true rfl) (Nat.le_of_ble_eq_true rfl) (by decide) (ct_X8_isIn (x3) (0) (1) μ) ?_
      refine ev_ifne_bi (tgt := 29) dX8_needed_23 rfl (fun c7 => ?_) (fun c7 => ?_)
      · have h8 := h5.1 c7
        refine ev_iconst (v := (-1)) dX8_needed_29 rfl ?_
        refine ev_istore (lv' := [(0, .ref 82), (1, .int x1), (2, .int x2), (3, .int x3), (4, .int (-1))]) dX8_needed_30 (by decide) [1, 2, 3, 4, 0] rfl ?_
        refine ev_aload_n dX8_needed_32 0 rfl (by decide) ?_
        refine ev_iload_n dX8_needed_33 1 rfl ?_
        refine ev_iload_n dX8_needed_34 2 rfl ?_
        refine ev_aload_n dX8_needed_35 0 rfl (by decide) ?_
        refine e2_callV (w := .int ((((1 : Int32) <<< (μ 82 4 &&& 31)) - 1))) (μ1 := μ) (a := 82) (as := []) (st := [.int x2, .int x1, .ref 82]) ok_X8_everyOne vi_X8_everyOne ml_8_262 hcl_8 kd_82 dX8_needed_36 rfl rfl (Nat.le_of_ble_eq_true rfl) (Nat.le_of_ble_eq_true rfl) (by decide) (ct_X8_everyOne μ) ?_
        have p10 := h8.1
        have h11 := h8.2
        refine e2_callVr (Rl := fun z12 μ13 => z12 = soonA α ((((1 : Int32) <<< (μ 82 4 &&& 31)) - 1)) x1.toNatClampNeg x2.toNatClampNeg ∧ onlyM 99 105 μ μ13) (a := 82) (as := [.int x1, .int x2, .int ((((1 : Int32) <<< (μ 82 4 &&& 31)) - 1))]) (st := []) ok_X8_soonTo vi_X8_soonTo ml_8_272 hcl_8 kd_82 dX8_needed_39 rfl rfl (Nat.le_of_ble_eq_true rfl) (Nat.le_of_ble_eq_true rfl) (by decide) (ct_X8_soonTo hf (x1) (x2) (((((1 : Int32) <<< (μ 82 4 &&& 31)) - 1))) μ p10) (fun z12 μ13 r14 => ?_)
        have h15 := h11 z12 μ13 r14
        refine ev_istore (lv' := [(0, .ref 82), (1, .int x1), (2, .int x2), (3, .int x3), (4, .int (-1)), (5, .int z12)]) dX8_needed_42 (by decide) [1, 2, 3, 4, 5, 0] rfl ?_
        refine ev_iconst (v := 0) dX8_needed_44 rfl ?_
        refine ev_istore (lv' := [(0, .ref 82), (1, .int x1), (2, .int x2), (3, .int x3), (4, .int (-1)), (5, .int z12), (6, .int 0)]) dX8_needed_45 (by decide) [1, 2, 3, 4, 5, 6, 0] rfl ?_
        exact h15
      · have h9 := h5.2 c7
        refine ev_bipush (v := (-7)) dX8_needed_26 rfl ?_
        exact ev_ireturn dX8_needed_28 rfl True.intro rfl rfl ⟨rfl, h9⟩
    · have h6 := h3.2 c4
      refine ev_bipush (v := (-5)) dX8_needed_14 rfl ?_
      exact ev_ireturn dX8_needed_16 rfl True.intro rfl rfl ⟨rfl, h6⟩
theorem sg_X8_needed_47 {G : GW} {K : Option Value → Mem → Prop} {μ : Mem} {α : Mem} (hf : WF α) {x1 x2 x3 x4 x5 x6 : Int32}  (h : (((μ 82 4) ≤ x6) → ((¬ x3 = 0) → K (some (.int x5)) μ) ∧ ((x3 = 0) → K (some (.int x4)) μ)) ∧ ((¬ ((μ 82 4) ≤ x6)) → (VM α μ ∧ inB x1 0 6 = true ∧ inB x2 0 6 = true ∧ setOK (aN α) (((((1 : Int32) <<< (μ 82 4 &&& 31)) - 1)) &&& (((1 : Int32) <<< (x6 &&& 31)) ^^^ (-1)))) ∧ ∀ (z9 : Int32) (μ10 : Mem), (z9 = soonA α (((((1 : Int32) <<< (μ 82 4 &&& 31)) - 1)) &&& (((1 : Int32) <<< (x6 &&& 31)) ^^^ (-1))) x1.toNatClampNeg x2.toNatClampNeg ∧ onlyM 99 105 μ μ10) → ((z9 ≤ x5) → Ev2 G mX8_needed 6 47 [(0, .ref 82), (1, .int x1), (2, .int x2), (3, .int x3), (4, .int x4), (5, .int (imax x5 z9)), (6, .int (x6 + 1))] [] μ10 K) ∧ ((¬ (z9 ≤ x5)) → Ev2 G mX8_needed 6 47 [(0, .ref 82), (1, .int x1), (2, .int x2), (3, .int x3), (4, .int x6), (5, .int (imax x5 z9)), (6, .int (x6 + 1))] [] μ10 K))) : Ev2 G mX8_needed 6 47 [(0, .ref 82), (1, .int x1), (2, .int x2), (3, .int x3), (4, .int x4), (5, .int x5), (6, .int x6)] [] μ K := by
  refine ev_iload dX8_needed_47 6 rfl ?_
  refine ev_aload_n dX8_needed_49 0 rfl (by decide) ?_
  refine ev_getI' (v := (μ 82 4)) fl_8_7 rfl kd_82 rfl dX8_needed_50 ?_
  refine ev_icmp_ge (tgt := 106) dX8_needed_53 rfl (fun c1 => ?_) (fun c1 => ?_)
  · have h2 := h.1 c1
    refine ev_iload_n dX8_needed_106 3 rfl ?_
    refine ev_if_ne (tgt := 115) dX8_needed_107 rfl (fun c4 => ?_) (fun c4 => ?_)
    · have h5 := h2.1 c4
      refine ev_iload dX8_needed_115 5 rfl ?_
      exact ev_ireturn dX8_needed_117 rfl True.intro rfl rfl ⟨rfl, h5⟩
    · have h6 := h2.2 c4
      refine ev_iload dX8_needed_110 4 rfl ?_
      refine ev_goto (tgt := 117) dX8_needed_112 rfl ?_
      exact ev_ireturn dX8_needed_117 rfl True.intro rfl rfl ⟨rfl, h6⟩
  · have h3 := h.2 c1
    refine ev_aload_n dX8_needed_56 0 rfl (by decide) ?_
    refine ev_iload_n dX8_needed_57 1 rfl ?_
    refine ev_iload_n dX8_needed_58 2 rfl ?_
    refine ev_aload_n dX8_needed_59 0 rfl (by decide) ?_
    refine e2_callV (w := .int ((((1 : Int32) <<< (μ 82 4 &&& 31)) - 1))) (μ1 := μ) (a := 82) (as := []) (st := [.int x2, .int x1, .ref 82]) ok_X8_everyOne vi_X8_everyOne ml_8_262 hcl_8 kd_82 dX8_needed_60 rfl rfl (Nat.le_of_ble_eq_true rfl) (Nat.le_of_ble_eq_true rfl) (by decide) (ct_X8_everyOne μ) ?_
    refine ev_iconst (v := 1) dX8_needed_63 rfl ?_
    refine ev_iload dX8_needed_64 6 rfl ?_
    refine ev_ishl dX8_needed_66 ?_
    refine ev_iconst (v := (-1)) dX8_needed_67 rfl ?_
    refine ev_ixor dX8_needed_68 ?_
    refine ev_iand dX8_needed_69 ?_
    have p7 := h3.1
    have h8 := h3.2
    refine e2_callVr (Rl := fun z9 μ10 => z9 = soonA α (((((1 : Int32) <<< (μ 82 4 &&& 31)) - 1)) &&& (((1 : Int32) <<< (x6 &&& 31)) ^^^ (-1))) x1.toNatClampNeg x2.toNatClampNeg ∧ onlyM 99 105 μ μ10) (a := 82) (as := [.int x1, .int x2, .int (((((1 : Int32) <<< (μ 82 4 &&& 31)) - 1)) &&& (((1 : Int32) <<< (x6 &&& 31)) ^^^ (-1)))]) (st := []) ok_X8_soonTo vi_X8_soonTo ml_8_272 hcl_8 kd_82 dX8_needed_70 rfl rfl (Nat.le_of_ble_eq_true rfl) (Nat.le_of_ble_eq_true rfl) (by decide) (ct_X8_soonTo hf (x1) (x2) ((((((1 : Int32) <<< (μ 82 4 &&& 31)) - 1)) &&& (((1 : Int32) <<< (x6 &&& 31)) ^^^ (-1)))) μ p7) (fun z9 μ10 r11 => ?_)
    have h12 := h8 z9 μ10 r11
    refine ev_istore (lv' := [(0, .ref 82), (1, .int x1), (2, .int x2), (3, .int x3), (4, .int x4), (5, .int x5), (6, .int x6), (7, .int z9)]) dX8_needed_73 (by decide) [1, 2, 3, 4, 5, 6, 7, 0] rfl ?_
    refine ev_iload dX8_needed_75 7 rfl ?_
    refine ev_iload dX8_needed_77 5 rfl ?_
    refine ev_icmp_le (tgt := 87) dX8_needed_79 rfl (fun c13 => ?_) (fun c13 => ?_)
    · have h14 := h12.1 c13
      refine ev_iload dX8_needed_87 4 rfl ?_
      refine ev_istore (lv' := [(0, .ref 82), (1, .int x1), (2, .int x2), (3, .int x3), (4, .int x4), (5, .int x5), (6, .int x6), (7, .int z9)]) dX8_needed_89 (by decide) [1, 2, 3, 4, 0, 5, 6, 7] rfl ?_
      refine ev_iload dX8_needed_91 5 rfl ?_
      refine ev_iload dX8_needed_93 7 rfl ?_
      refine ev_max ml_8_64 dX8_needed_95 (Nat.le_of_ble_eq_true rfl) (by decide) ⟨Nat.le_refl _, Nat.le_refl _⟩ ?_
      refine ev_istore (lv' := [(0, .ref 82), (1, .int x1), (2, .int x2), (3, .int x3), (4, .int x4), (5, .int (imax x5 z9)), (6, .int x6), (7, .int z9)]) dX8_needed_98 (by decide) [1, 2, 3, 4, 5, 0, 6, 7] rfl ?_
      refine ev_iinc (v := (x6 + 1)) (lv' := [(0, .ref 82), (1, .int x1), (2, .int x2), (3, .int x3), (4, .int x4), (5, .int (imax x5 z9)), (6, .int (x6 + 1)), (7, .int z9)]) dX8_needed_100 6 rfl rfl (by decide) [1, 2, 3, 4, 5, 6, 0, 7] rfl ?_
      refine ev_goto (tgt := 47) dX8_needed_103 rfl ?_
      refine EvW.less [0, 1, 2, 3, 4, 5, 6] (lv' := [(0, .ref 82), (1, .int x1), (2, .int x2), (3, .int x3), (4, .int x4), (5, .int (imax x5 z9)), (6, .int (x6 + 1))]) rfl ?_
      exact h14
    · have h15 := h12.2 c13
      refine ev_iload dX8_needed_82 6 rfl ?_
      refine ev_goto (tgt := 89) dX8_needed_84 rfl ?_
      refine ev_istore (lv' := [(0, .ref 82), (1, .int x1), (2, .int x2), (3, .int x3), (4, .int x6), (5, .int x5), (6, .int x6), (7, .int z9)]) dX8_needed_89 (by decide) [1, 2, 3, 4, 0, 5, 6, 7] rfl ?_
      refine ev_iload dX8_needed_91 5 rfl ?_
      refine ev_iload dX8_needed_93 7 rfl ?_
      refine ev_max ml_8_64 dX8_needed_95 (Nat.le_of_ble_eq_true rfl) (by decide) ⟨Nat.le_refl _, Nat.le_refl _⟩ ?_
      refine ev_istore (lv' := [(0, .ref 82), (1, .int x1), (2, .int x2), (3, .int x3), (4, .int x6), (5, .int (imax x5 z9)), (6, .int x6), (7, .int z9)]) dX8_needed_98 (by decide) [1, 2, 3, 4, 5, 0, 6, 7] rfl ?_
      refine ev_iinc (v := (x6 + 1)) (lv' := [(0, .ref 82), (1, .int x1), (2, .int x2), (3, .int x3), (4, .int x6), (5, .int (imax x5 z9)), (6, .int (x6 + 1)), (7, .int z9)]) dX8_needed_100 6 rfl rfl (by decide) [1, 2, 3, 4, 5, 6, 0, 7] rfl ?_
      refine ev_goto (tgt := 47) dX8_needed_103 rfl ?_
      refine EvW.less [0, 1, 2, 3, 4, 5, 6] (lv' := [(0, .ref 82), (1, .int x1), (2, .int x2), (3, .int x3), (4, .int x6), (5, .int (imax x5 z9)), (6, .int (x6 + 1))]) rfl ?_
      exact h15
theorem imax_le {x y : Int32} (h : y ≤ x) : imax x y = x := if_neg (Int32.not_lt.mpr h)
theorem imax_nle {x y : Int32} (h : ¬ y ≤ x) : imax x y = y := if_pos (Int32.not_le.mp h)
theorem lp_X8_needed {G : GW} {α μ0 : Mem} (hf : WF α) {a b : Nat} (ha : a < 7) (hb : b < 7) {x3 : Int32} : ∀ j i (μ : Mem), i + j = aN α → VM α μ → keepX μ0 μ → Ev2 G mX8_needed 6 47 [(0, .ref 82), (1, .int (nI a)), (2, .int (nI b)), (3, .int x3), (4, .int (needA α a b i).2), (5, .int (needA α a b i).1), (6, .int (nI i))] [] μ (fun v μ' => v = some (.int (sel2 x3 (needA α a b (aN α)).2 (needA α a b (aN α)).1)) ∧ VM α μ' ∧ keepX μ0 μ') := by
  have hn7 := hf.1.1.2
  intro j
  induction j with
  | zero =>
    intro i μ hi h hm
    obtain rfl : i = aN α := by omega
    refine sg_X8_needed_47 hf ⟨fun _ => ⟨fun c => ⟨?_, h, hm⟩, fun c => ⟨?_, h, hm⟩⟩, fun c => ?_⟩
    · unfold sel2; rw [if_neg c]
    · unfold sel2; rw [if_pos c]
    · rw [h.n hf] at c
      exact absurd (nI_le (Nat.le_refl _) (by omega)) c
  | succ j ih =>
    intro i μ hi h hm
    refine sg_X8_needed_47 hf ⟨fun c => ?_, fun _ => ?_⟩
    · rw [h.n hf] at c
      exact absurd c (nI_ge (by omega) (by omega))
    · rw [h.all]
      have hs := setOK_and (allA_ok hf.1) ((1 <<< (nI i &&& 31)) ^^^ (-1))
      refine ⟨⟨h, inB_7 ha, inB_7 hb, hs⟩, fun x ν hx => ?_⟩
      rw [ix_nI (by omega), ix_nI (by omega)] at hx
      obtain ⟨ex, ho⟩ := hx
      obtain ⟨h1, k1⟩ := h.o hf ho
      have hh := ih (i + 1) ν (by omega) h1 (hm.tr k1)
      rw [needA_succ, ← ex, ← nI_1] at hh
      unfold stepN at hh
      refine ⟨fun c => ?_, fun c => ?_⟩
      · rw [if_pos c] at hh
        rw [imax_le c]
        exact hh
      · rw [if_neg c] at hh
        rw [imax_nle c]
        exact hh
theorem pb_X8_needed {G : GW} {α μ : Mem} (hf : WF α) (h : VM α μ) (x1 x2 x3 : Int32) : pubM G mX8_needed 6 [(0, .ref 82), (1, .int x1), (2, .int x2), (3, .int x3)] α μ (.int (sp_needed α x1 x2 x3)) α := by
  have hs := allA_ok hf.1
  refine sg_X8_needed_0 hf ?_
  unfold sp_needed
  refine ⟨fun c => ?_, fun c => ⟨fun d => ⟨fun e => ?_, fun e => ?_⟩, fun d => ?_⟩⟩
  · rw [if_neg (by rw [c]; decide)]
    exact ⟨rfl, h, keepX.rf μ⟩
  · rw [if_pos c, if_pos d, if_pos e, h.all]
    refine ⟨⟨h, c, d, hs⟩, fun x ν hx => ?_⟩
    obtain ⟨a, ha, rfl⟩ := inB_p c
    obtain ⟨b, hb, rfl⟩ := inB_p d
    rw [ix_nI (i := a) (by omega), ix_nI (i := b) (by omega)] at hx ⊢
    obtain ⟨ex, ho⟩ := hx
    obtain ⟨h1, k1⟩ := h.o hf ho
    have hh := lp_X8_needed (G := G) hf (a := a) (b := b) ha hb (x3 := x3) (aN α) 0 ν (by omega) h1 k1
    rw [needA_01, needA_02, ← ex] at hh
    exact hh
  · rw [if_pos c, if_pos d, if_neg (by rw [e]; decide)]
    exact ⟨rfl, h, keepX.rf μ⟩
  · rw [if_pos c, if_neg (by rw [d]; decide)]
    exact ⟨rfl, h, keepX.rf μ⟩
/-! again -/
theorem wayQ.only {α μ ν : Mem} {set : Int32} {a b : Nat} (h : wayQ α set a b μ) (ho : onlyM 99 100 μ ν) : wayQ α set a b ν := by
  obtain ⟨⟨h1, h2⟩, h3⟩ := h
  refine ⟨⟨by rw [ho 82 (by omega)]; exact h1, fun i hi => by rw [ho 106 (by omega)]; exact h2 i hi⟩, fun k hk => ?_⟩
  rw [ho 101 (by omega), ho 102 (by omega), ho 103 (by omega)]
  exact h3 k hk
theorem sg_X8_again_0 {G : GW} {K : Option Value → Mem → Prop} {μ : Mem} {α : Mem} (hf : WF α) {x1 x2 : Int32}  (h : (((inB x1 0 6) = false) → K (some (.int (-5))) μ) ∧ (((inB x1 0 6) = true) → (((inB x2 0 6) = true) → (VM α μ ∧ inB x1 0 6 = true ∧ setOK (aN α) ((((1 : Int32) <<< (μ 82 4 &&& 31)) - 1))) ∧ ∀ μ9 : Mem, (onlyM 99 105 μ μ9 ∧ eq7 (get4 101 μ9) (refS α ((((1 : Int32) <<< (μ 82 4 &&& 31)) - 1)) x1.toNatClampNeg)) → ((∃ w a, chP w a μ9) ∧ inB x2 0 6 = true) ∧ ∀ μ14 : Mem, (wyR μ9 (backL (get4 101 μ9) 7 x2.toNatClampNeg) μ14) → Ev2 G mX8_again 5 36 [(0, .ref 82), (3, .int 0), (4, .int 0)] [] μ14 K) ∧ (((inB x2 0 6) = false) → K (some (.int (-5))) μ))) : Ev2 G mX8_again 5 0 [(0, .ref 82), (1, .int x1), (2, .int x2)] [] μ K := by
  refine ev_iload_n dX8_again_0 1 rfl ?_
  refine e2_callS (w := .int (bi (inB x1 0 6))) (μ1 := μ) (as := [.int x1]) (st := []) ok_X8_isPlace sv_X8_isPlace ml_8_18 dX8_again_1 rfl rfl (Nat.le_of_ble_eq_true rfl) (Nat.le_of_ble_eq_true rfl) (by decide) (ct_X8_isPlace (x1) μ) ?_
  refine ev_ifeq_bi (tgt := 14) dX8_again_4 rfl (fun c1 => ?_) (fun c1 => ?_)
  · have h2 := h.1 c1
    refine ev_bipush (v := (-5)) dX8_again_14 rfl ?_
    exact ev_ireturn dX8_again_16 rfl True.intro rfl rfl ⟨rfl, h2⟩
  · have h3 := h.2 c1
    refine ev_iload_n dX8_again_7 2 rfl ?_
    refine e2_callS (w := .int (bi (inB x2 0 6))) (μ1 := μ) (as := [.int x2]) (st := []) ok_X8_isPlace sv_X8_isPlace ml_8_18 dX8_again_8 rfl rfl (Nat.le_of_ble_eq_true rfl) (Nat.le_of_ble_eq_true rfl) (by decide) (ct_X8_isPlace (x2) μ) ?_
    refine ev_ifne_bi (tgt := 17) dX8_again_11 rfl (fun c4 => ?_) (fun c4 => ?_)
    · have h5 := h3.1 c4
      refine ev_aload_n dX8_again_17 0 rfl (by decide) ?_
      refine ev_iload_n dX8_again_18 1 rfl ?_
      refine ev_aload_n dX8_again_19 0 rfl (by decide) ?_
      refine e2_callV (w := .int ((((1 : Int32) <<< (μ 82 4 &&& 31)) - 1))) (μ1 := μ) (a := 82) (as := []) (st := [.int x1, .ref 82]) ok_X8_everyOne vi_X8_everyOne ml_8_262 hcl_8 kd_82 dX8_again_20 rfl rfl (Nat.le_of_ble_eq_true rfl) (Nat.le_of_ble_eq_true rfl) (by decide) (ct_X8_everyOne μ) ?_
      have p7 := h5.1
      have h8 := h5.2
      refine e2_callVrv (Rl := fun μ9 => onlyM 99 105 μ μ9 ∧ eq7 (get4 101 μ9) (refS α ((((1 : Int32) <<< (μ 82 4 &&& 31)) - 1)) x1.toNatClampNeg)) (a := 82) (as := [.int x1, .int ((((1 : Int32) <<< (μ 82 4 &&& 31)) - 1))]) (st := []) ok_X8_goFrom vi_X8_goFrom ml_8_256 hcl_8 kd_82 dX8_again_23 rfl rfl (Nat.le_of_ble_eq_true rfl) (Nat.le_of_ble_eq_true rfl) (by decide) (ct_X8_goFrom hf (x1) (((((1 : Int32) <<< (μ 82 4 &&& 31)) - 1))) μ p7) (fun μ9 r10 => ?_)
      have h11 := h8 μ9 r10
      refine ev_aload_n dX8_again_26 0 rfl (by decide) ?_
      refine ev_iload_n dX8_again_27 2 rfl ?_
      have p12 := h11.1
      have h13 := h11.2
      refine e2_callVrv (Rl := fun μ14 => wyR μ9 (backL (get4 101 μ9) 7 x2.toNatClampNeg) μ14) (a := 82) (as := [.int x2]) (st := []) ok_X8_wayTo vi_X8_wayTo ml_8_266 hcl_8 kd_82 dX8_again_28 rfl rfl (Nat.le_of_ble_eq_true rfl) (Nat.le_of_ble_eq_true rfl) (by decide) (ct_X8_wayTo (x2) μ9 p12) (fun μ14 r15 => ?_)
      have h16 := h13 μ14 r15
      refine ev_iconst (v := 0) dX8_again_31 rfl ?_
      refine ev_istore_n (lv' := [(0, .ref 82), (1, .int x1), (2, .int x2), (3, .int 0)]) dX8_again_32 (by decide) [1, 2, 3, 0] rfl ?_
      refine ev_iconst (v := 0) dX8_again_33 rfl ?_
      refine ev_istore (lv' := [(0, .ref 82), (1, .int x1), (2, .int x2), (3, .int 0), (4, .int 0)]) dX8_again_34 (by decide) [1, 2, 3, 4, 0] rfl ?_
      refine EvW.less [0, 3, 4] (lv' := [(0, .ref 82), (3, .int 0), (4, .int 0)]) rfl ?_
      exact h16
    · have h6 := h3.2 c4
      refine ev_bipush (v := (-5)) dX8_again_14 rfl ?_
      exact ev_ireturn dX8_again_16 rfl True.intro rfl rfl ⟨rfl, h6⟩
theorem sg_X8_again_36 {G : GW} {K : Option Value → Mem → Prop} {μ : Mem} {α : Mem} (hf : WF α) {x3 x4 : Int32}  (h : (((μ 82 4) ≤ x4) → K (some (.int x3)) μ) ∧ ((¬ ((μ 82 4) ≤ x4)) → (wyP μ) ∧ ((¬ (((wsN μ (μ 82 38).toNatClampNeg) >>> (x4 &&& 31)) &&& 1) = 1) → Ev2 G mX8_again 5 36 [(0, .ref 82), (3, .int x3), (4, .int (x4 + 1))] [] μ K) ∧ (((((wsN μ (μ 82 38).toNatClampNeg) >>> (x4 &&& 31)) &&& 1) = 1) → (VM α μ ∧ inB x4 0 (α 0 0 - 1) = true) ∧ ∀ (z11 : Int32) (μ12 : Mem), (z11 = outA α x4.toNatClampNeg ∧ onlyM 99 100 μ μ12) → (VM α μ12 ∧ inB x4 0 (α 0 0 - 1) = true) ∧ ∀ (z17 : Int32) (μ18 : Mem), (z17 = homeA α x4.toNatClampNeg ∧ onlyM 99 100 μ12 μ18) → Ev2 G mX8_again 5 36 [(0, .ref 82), (3, .int (imax x3 (z11 + z17))), (4, .int (x4 + 1))] [] μ18 K))) : Ev2 G mX8_again 5 36 [(0, .ref 82), (3, .int x3), (4, .int x4)] [] μ K := by
  refine ev_iload dX8_again_36 2 rfl ?_
  refine ev_aload_n dX8_again_38 0 rfl (by decide) ?_
  refine ev_getI' (v := (μ 82 4)) fl_8_7 rfl kd_82 rfl dX8_again_39 ?_
  refine ev_icmp_ge (tgt := 86) dX8_again_42 rfl (fun c1 => ?_) (fun c1 => ?_)
  · have h2 := h.1 c1
    refine ev_iload_n dX8_again_86 1 rfl ?_
    exact ev_ireturn dX8_again_87 rfl True.intro rfl rfl ⟨rfl, h2⟩
  · have h3 := h.2 c1
    refine ev_aload_n dX8_again_45 0 rfl (by decide) ?_
    have p4 := h3.1
    have h5 := h3.2
    refine e2_callV (w := .int (wsN μ (μ 82 38).toNatClampNeg)) (μ1 := μ) (a := 82) (as := []) (st := []) ok_X8_waySet vi_X8_waySet ml_8_269 hcl_8 kd_82 dX8_again_46 rfl rfl (Nat.le_of_ble_eq_true rfl) (Nat.le_of_ble_eq_true rfl) (by decide) (ct_X8_waySet μ p4) ?_
    refine ev_iload dX8_again_49 2 rfl ?_
    refine ev_ishr dX8_again_51 ?_
    refine ev_iconst (v := 1) dX8_again_52 rfl ?_
    refine ev_iand dX8_again_53 ?_
    refine ev_iconst (v := 1) dX8_again_54 rfl ?_
    refine ev_icmp_ne (tgt := 78) dX8_again_55 rfl (fun c6 => ?_) (fun c6 => ?_)
    · have h7 := h5.1 c6
      refine ev_iload_n dX8_again_78 1 rfl ?_
      refine ev_istore_n (lv' := [(0, .ref 82), (3, .int x3), (4, .int x4)]) dX8_again_79 (by decide) [1, 0, 2] rfl ?_
      refine ev_iinc (v := (x4 + 1)) (lv' := [(0, .ref 82), (3, .int x3), (4, .int (x4 + 1))]) dX8_again_80 2 rfl rfl (by decide) [1, 2, 0] rfl ?_
      refine ev_goto (tgt := 36) dX8_again_83 rfl ?_
      exact h7
    · have h8 := h5.2 c6
      refine ev_iload_n dX8_again_58 1 rfl ?_
      refine ev_aload_n dX8_again_59 0 rfl (by decide) ?_
      refine ev_iload dX8_again_60 2 rfl ?_
      have p9 := h8.1
      have h10 := h8.2
      refine e2_callVr (Rl := fun z11 μ12 => z11 = outA α x4.toNatClampNeg ∧ onlyM 99 100 μ μ12) (a := 82) (as := [.int x4]) (st := [.int x3]) ok_X8_outOf vi_X8_outOf ml_8_69 hcl_8 kd_82 dX8_again_62 rfl rfl (Nat.le_of_ble_eq_true rfl) (Nat.le_of_ble_eq_true rfl) (by decide) (ct_X8_outOf hf (x4) μ p9) (fun z11 μ12 r13 => ?_)
      have h14 := h10 z11 μ12 r13
      refine ev_aload_n dX8_again_65 0 rfl (by decide) ?_
      refine ev_iload dX8_again_66 2 rfl ?_
      have p15 := h14.1
      have h16 := h14.2
      refine e2_callVr (Rl := fun z17 μ18 => z17 = homeA α x4.toNatClampNeg ∧ onlyM 99 100 μ12 μ18) (a := 82) (as := [.int x4]) (st := [.int z11, .int x3]) ok_X8_homeOf vi_X8_homeOf ml_8_73 hcl_8 kd_82 dX8_again_68 rfl rfl (Nat.le_of_ble_eq_true rfl) (Nat.le_of_ble_eq_true rfl) (by decide) (ct_X8_homeOf hf (x4) μ12 p15) (fun z17 μ18 r19 => ?_)
      have h20 := h16 z17 μ18 r19
      refine ev_iadd dX8_again_71 ?_
      refine ev_max ml_8_64 dX8_again_72 (Nat.le_of_ble_eq_true rfl) (by decide) ⟨Nat.le_refl _, Nat.le_refl _⟩ ?_
      refine ev_goto (tgt := 79) dX8_again_75 rfl ?_
      refine ev_istore_n (lv' := [(0, .ref 82), (3, .int (imax x3 (z11 + z17))), (4, .int x4)]) dX8_again_79 (by decide) [1, 0, 2] rfl ?_
      refine ev_iinc (v := (x4 + 1)) (lv' := [(0, .ref 82), (3, .int (imax x3 (z11 + z17))), (4, .int (x4 + 1))]) dX8_again_80 2 rfl rfl (by decide) [1, 2, 0] rfl ?_
      refine ev_goto (tgt := 36) dX8_again_83 rfl ?_
      exact h20
theorem lp_X8_again {G : GW} {α μ0 : Mem} (hf : WF α) {set : Int32} (hs : setOK (aN α) set) {a b : Nat} (ha : a < 7) (hb : b < 7) {S : Int32} (hS : wayHs (refS α set a) 0 (wayR α set a b) = S) : ∀ j i (μ : Mem), i + j = aN α → VM α μ → keepX μ0 μ → wayQ α set a b μ → Ev2 G mX8_again 5 36 [(0, .ref 82), (3, .int (agA α S i)), (4, .int (nI i))] [] μ (fun v μ' => v = some (.int (agA α S (aN α))) ∧ VM α μ' ∧ keepX μ0 μ') := by
  have hn7 := hf.1.1.2
  intro j
  induction j with
  | zero =>
    intro i μ hi h hm hq
    obtain rfl : i = aN α := by omega
    refine sg_X8_again_36 hf ⟨fun _ => ⟨rfl, h, hm⟩, fun c => ?_⟩
    rw [h.n hf] at c
    exact absurd (nI_le (Nat.le_refl _) (by omega)) c
  | succ j ih =>
    intro i μ hi h hm hq
    have ep : agA α S (i + 1) = if bitB S (nI i) = true then imax (agA α S i) (outA α i + homeA α i) else agA α S i := rfl
    have hh := fun μ => ih (i + 1) μ (by omega)
    rw [ep, ← nI_1] at hh
    refine sg_X8_again_36 hf ⟨fun c => ?_, fun _ => ⟨hq.P hf hs ha hb, fun c => ?_, fun c => ⟨⟨h, inB_h hf (by omega)⟩, fun x ν hx => ?_⟩⟩⟩
    · rw [h.n hf] at c
      exact absurd c (nI_ge (by omega) (by omega))
    · rw [hq.set hf hs ha hb, hS] at c
      rw [if_neg (fun q => c (bitB_1.mp q))] at hh
      exact hh μ h hm hq
    · rw [hq.set hf hs ha hb, hS] at c
      rw [if_pos (bitB_1.mpr c)] at hh
      obtain ⟨ex, ho⟩ := hx
      obtain ⟨h1, k1⟩ := h.W hf ho
      refine ⟨⟨h1, inB_h hf (by omega)⟩, fun y ξ hy => ?_⟩
      obtain ⟨ey, ho2⟩ := hy
      obtain ⟨h2, k2⟩ := h1.W hf ho2
      rw [ix_nI (by omega)] at ex ey
      rw [ex, ey]
      exact hh ξ h2 ((hm.tr k1).tr k2) ((hq.only ho).only ho2)
theorem pb_X8_again {G : GW} {α μ : Mem} (hf : WF α) (h : VM α μ) (x1 x2 : Int32) : pubM G mX8_again 5 [(0, .ref 82), (1, .int x1), (2, .int x2)] α μ (.int (sp_again α x1 x2)) α := by
  have hs := allA_ok hf.1
  refine sg_X8_again_0 hf ?_
  rw [h.all]
  unfold sp_again
  refine ⟨fun c => ?_, fun c => ⟨fun d => ⟨⟨h, c, hs⟩, fun ν hν => ?_⟩, fun d => ?_⟩⟩
  · rw [if_neg (by rw [c]; decide)]
    exact ⟨rfl, h, keepX.rf μ⟩
  · rw [if_pos c, if_pos d]
    obtain ⟨a, ha, rfl⟩ := inB_p c
    obtain ⟨b, hb, rfl⟩ := inB_p d
    rw [ix_nI (i := a) (by omega)] at hν
    obtain ⟨h1, k1⟩ := h.o hf hν.1
    refine ⟨⟨⟨_, _, ref_ch hf hs ha hν.2⟩, d⟩, fun ξ hξ => ?_⟩
    rw [ix_nI (i := b) (by omega)] at hξ
    obtain ⟨hq, hsc⟩ := ref_way hf hs ha hb hν.2 hξ
    obtain ⟨h2, k2⟩ := h1.scr hf hsc
    obtain ⟨w1, w2, w3, w4⟩ := way_stop hf hs ha hb
    have eA : wayA α a b = wayR α (allA α) a b := w1
    rw [ix_nI (i := a) (by omega), ix_nI (i := b) (by omega), eA, w2]
    exact lp_X8_again hf hs ha hb rfl (aN α) 0 ξ (Nat.zero_add _) h2 (k1.tr k2) hq
  · rw [if_pos c, if_neg (by rw [d]; decide)]
    exact ⟨rfl, h, keepX.rf μ⟩
/-! doctor -/
theorem grS_eq {σ τ : Mem} (e : ∀ k, k < 7 → σ 0 k = τ 0 k) : ∀ n, n ≤ 7 → grS σ n = grS τ n := by
  intro n
  induction n with
  | zero => intro _; rfl
  | succ n ih =>
    intro hn
    unfold grS
    rw [ih (by omega), e n (by omega)]
theorem grS_range {σ : Mem} (e : ∀ k, k < 7 → ∃ s, s ≤ 999 ∧ σ 0 k = nI s) : ∀ n, n ≤ 7 → ∃ s, s ≤ 999 ∧ grS σ n = nI s := by
  intro n
  induction n with
  | zero => intro _; exact ⟨0, by omega, rfl⟩
  | succ n ih =>
    intro hn
    obtain ⟨s, hs, es⟩ := ih (by omega)
    obtain ⟨t, ht, et⟩ := e n (by omega)
    unfold grS
    rw [es, et, imax_nI (by omega) (by omega)]
    exact ⟨max s t, by omega, rfl⟩
theorem doc_gr {α : Mem} (hf : WF α) {p : Nat} (hp : p < 7) : grS (runA α (allA α) (-1) p) 7 = grS (refS α (allA α) p) 7 := grS_eq (fun k hk => ((run_all hf (allA_ok hf.1) hp).2 k hk).1) 7 (Nat.le_refl 7)
theorem doc_1 {α : Mem} (hf : WF α) : docA α (0 + 1) = (grS (runA α (allA α) (-1) 0) 7, nI 0) := by
  obtain ⟨s, hs, e⟩ := grS_range (fun k hk => refS_lt hf (allA_ok hf.1) (show 0 < 7 by omega) hk) 7 (Nat.le_refl 7)
  rw [docA_succ, doc_gr hf (by omega), e]
  have c : ¬ (1000000000 : Int32) ≤ nI s := Int32.not_le.mpr (nI_lt (b := 1000000000) (by omega) (by omega))
  exact if_neg c
theorem doc_k {α : Mem} : ∀ k, k ≤ 7 → ∃ j, j < 7 ∧ (docA α k).2 = nI j := by
  intro k
  induction k with
  | zero => intro _; exact ⟨0, by omega, rfl⟩
  | succ k ih =>
    intro hk
    obtain ⟨j, hj, e⟩ := ih (by omega)
    rw [docA_succ]
    unfold stepD
    split
    · exact ⟨j, hj, e⟩
    · exact ⟨k, by omega, rfl⟩
theorem sg_X8_doctor_0 {G : GW} {K : Option Value → Mem → Prop} {μ : Mem} {α : Mem} (hf : WF α) {x1 : Int32}  (h : (((inB x1 (0 : Int32) (1 : Int32)) = true) → Ev2 G mX8_doctor 5 19 [(0, .ref 82), (1, .int x1), (2, .int (-1)), (3, .int 0), (4, .int 0)] [] μ K) ∧ (((inB x1 (0 : Int32) (1 : Int32)) = false) → K (some (.int (-2))) μ)) : Ev2 G mX8_doctor 5 0 [(0, .ref 82), (1, .int x1)] [] μ K := by
  refine ev_iload_n dX8_doctor_0 1 rfl ?_
  refine ev_iconst (v := 0) dX8_doctor_1 rfl ?_
  refine ev_iconst (v := 1) dX8_doctor_2 rfl ?_
  refine e2_callS (w := .int (bi (inB x1 (0 : Int32) (1 : Int32)))) (μ1 := μ) (as := [.int x1, .int 0, .int 1]) (st := []) ok_X8_isIn sv_X8_isIn ml_8_3 dX8_doctor_3 rfl rfl (Nat.le_of_ble_eq_true rfl) (Nat.le_of_ble_eq_true rfl) (by decide) (ct_X8_isIn (x1) (0) (1) μ) ?_
  refine ev_ifne_bi (tgt := 12) dX8_doctor_6 rfl (fun c1 => ?_) (fun c1 => ?_)
  · have h2 := h.1 c1
    refine ev_iconst (v := (-1)) dX8_doctor_12 rfl ?_
    refine ev_istore_n (lv' := [(0, .ref 82), (1, .int x1), (2, .int (-1))]) dX8_doctor_13 (by decide) [1, 2, 0] rfl ?_
    refine ev_iconst (v := 0) dX8_doctor_14 rfl ?_
    refine ev_istore_n (lv' := [(0, .ref 82), (1, .int x1), (2, .int (-1)), (3, .int 0)]) dX8_doctor_15 (by decide) [1, 2, 3, 0] rfl ?_
    refine ev_iconst (v := 0) dX8_doctor_16 rfl ?_
    refine ev_istore (lv' := [(0, .ref 82), (1, .int x1), (2, .int (-1)), (3, .int 0), (4, .int 0)]) dX8_doctor_17 (by decide) [1, 2, 3, 4, 0] rfl ?_
    exact h2
  · have h3 := h.2 c1
    refine ev_bipush (v := (-2)) dX8_doctor_9 rfl ?_
    exact ev_ireturn dX8_doctor_11 rfl True.intro rfl rfl ⟨rfl, h3⟩
theorem sg_X8_doctor_19 {G : GW} {K : Option Value → Mem → Prop} {μ : Mem} {α : Mem} (hf : WF α) {x1 x2 x3 x4 : Int32}  (h : ((7 ≤ x4) → ((¬ x1 = 0) → K (some (.int x2)) μ) ∧ ((x1 = 0) → K (some (.int x3)) μ)) ∧ ((¬ (7 ≤ x4)) → (VM α μ ∧ inB x4 0 6 = true ∧ setOK (aN α) ((((1 : Int32) <<< (μ 82 4 &&& 31)) - 1))) ∧ ∀ μ9 : Mem, (onlyM 99 105 μ μ9 ∧ eq7 (get4 101 μ9) (refS α ((((1 : Int32) <<< (μ 82 4 &&& 31)) - 1)) x4.toNatClampNeg)) → Ev2 G mX8_doctor 5 42 [(0, .ref 82), (1, .int x1), (2, .int x2), (3, .int x3), (4, .int x4), (5, .int 0), (6, .int 0)] [] μ9 K)) : Ev2 G mX8_doctor 5 19 [(0, .ref 82), (1, .int x1), (2, .int x2), (3, .int x3), (4, .int x4)] [] μ K := by
  refine ev_iload dX8_doctor_19 4 rfl ?_
  refine ev_bipush (v := 7) dX8_doctor_21 rfl ?_
  refine ev_icmp_ge (tgt := 92) dX8_doctor_23 rfl (fun c1 => ?_) (fun c1 => ?_)
  · have h2 := h.1 c1
    refine ev_iload_n dX8_doctor_92 1 rfl ?_
    refine ev_if_ne (tgt := 100) dX8_doctor_93 rfl (fun c4 => ?_) (fun c4 => ?_)
    · have h5 := h2.1 c4
      refine ev_iload_n dX8_doctor_100 2 rfl ?_
      exact ev_ireturn dX8_doctor_101 rfl True.intro rfl rfl ⟨rfl, h5⟩
    · have h6 := h2.2 c4
      refine ev_iload_n dX8_doctor_96 3 rfl ?_
      refine ev_goto (tgt := 101) dX8_doctor_97 rfl ?_
      exact ev_ireturn dX8_doctor_101 rfl True.intro rfl rfl ⟨rfl, h6⟩
  · have h3 := h.2 c1
    refine ev_aload_n dX8_doctor_26 0 rfl (by decide) ?_
    refine ev_iload dX8_doctor_27 4 rfl ?_
    refine ev_aload_n dX8_doctor_29 0 rfl (by decide) ?_
    refine e2_callV (w := .int ((((1 : Int32) <<< (μ 82 4 &&& 31)) - 1))) (μ1 := μ) (a := 82) (as := []) (st := [.int x4, .ref 82]) ok_X8_everyOne vi_X8_everyOne ml_8_262 hcl_8 kd_82 dX8_doctor_30 rfl rfl (Nat.le_of_ble_eq_true rfl) (Nat.le_of_ble_eq_true rfl) (by decide) (ct_X8_everyOne μ) ?_
    have p7 := h3.1
    have h8 := h3.2
    refine e2_callVrv (Rl := fun μ9 => onlyM 99 105 μ μ9 ∧ eq7 (get4 101 μ9) (refS α ((((1 : Int32) <<< (μ 82 4 &&& 31)) - 1)) x4.toNatClampNeg)) (a := 82) (as := [.int x4, .int ((((1 : Int32) <<< (μ 82 4 &&& 31)) - 1))]) (st := []) ok_X8_goFrom vi_X8_goFrom ml_8_256 hcl_8 kd_82 dX8_doctor_33 rfl rfl (Nat.le_of_ble_eq_true rfl) (Nat.le_of_ble_eq_true rfl) (by decide) (ct_X8_goFrom hf (x4) (((((1 : Int32) <<< (μ 82 4 &&& 31)) - 1))) μ p7) (fun μ9 r10 => ?_)
    have h11 := h8 μ9 r10
    refine ev_iconst (v := 0) dX8_doctor_36 rfl ?_
    refine ev_istore (lv' := [(0, .ref 82), (1, .int x1), (2, .int x2), (3, .int x3), (4, .int x4), (5, .int 0)]) dX8_doctor_37 (by decide) [1, 2, 3, 4, 5, 0] rfl ?_
    refine ev_iconst (v := 0) dX8_doctor_39 rfl ?_
    refine ev_istore (lv' := [(0, .ref 82), (1, .int x1), (2, .int x2), (3, .int x3), (4, .int x4), (5, .int 0), (6, .int 0)]) dX8_doctor_40 (by decide) [1, 2, 3, 4, 5, 6, 0] rfl ?_
    exact h11
theorem sg_X8_doctor_42 {G : GW} {K : Option Value → Mem → Prop} {μ : Mem} {α : Mem} (hf : WF α) {x1 x2 x3 x4 x5 x6 : Int32}  (h : ((7 ≤ x6) → ((x2 = (-1)) → Ev2 G mX8_doctor 5 19 [(0, .ref 82), (1, .int x1), (2, .int x4), (3, .int x5), (4, .int (x4 + 1))] [] μ K) ∧ ((¬ (x2 = (-1))) → ((x3 ≤ x5) → Ev2 G mX8_doctor 5 19 [(0, .ref 82), (1, .int x1), (2, .int x2), (3, .int x3), (4, .int (x4 + 1))] [] μ K) ∧ ((¬ (x3 ≤ x5)) → Ev2 G mX8_doctor 5 19 [(0, .ref 82), (1, .int x1), (2, .int x4), (3, .int x5), (4, .int (x4 + 1))] [] μ K))) ∧ ((¬ (7 ≤ x6)) → (vp_in x6 7) ∧ ∀ y12 : Int32, y12 = (imax x5 (μ 101 x6.toNatClampNeg)) → Ev2 G mX8_doctor 5 42 [(0, .ref 82), (1, .int x1), (2, .int x2), (3, .int x3), (4, .int x4), (5, .int y12), (6, .int (x6 + 1))] [] μ K)) : Ev2 G mX8_doctor 5 42 [(0, .ref 82), (1, .int x1), (2, .int x2), (3, .int x3), (4, .int x4), (5, .int x5), (6, .int x6)] [] μ K := by
  refine ev_iload dX8_doctor_42 6 rfl ?_
  refine ev_bipush (v := 7) dX8_doctor_44 rfl ?_
  refine ev_icmp_ge (tgt := 69) dX8_doctor_46 rfl (fun c1 => ?_) (fun c1 => ?_)
  · have h2 := h.1 c1
    refine ev_iload_n dX8_doctor_69 2 rfl ?_
    refine ev_iconst (v := (-1)) dX8_doctor_70 rfl ?_
    refine ev_icmp_eq (tgt := 80) dX8_doctor_71 rfl (fun c4 => ?_) (fun c4 => ?_)
    · have h5 := h2.1 c4
      refine ev_iload dX8_doctor_80 4 rfl ?_
      refine ev_istore_n (lv' := [(0, .ref 82), (1, .int x1), (2, .int x4), (3, .int x3), (4, .int x4), (5, .int x5), (6, .int x6)]) dX8_doctor_82 (by decide) [1, 2, 0, 3, 4, 5, 6] rfl ?_
      refine ev_iload dX8_doctor_83 5 rfl ?_
      refine ev_istore_n (lv' := [(0, .ref 82), (1, .int x1), (2, .int x4), (3, .int x5), (4, .int x4), (5, .int x5), (6, .int x6)]) dX8_doctor_85 (by decide) [1, 2, 3, 0, 4, 5, 6] rfl ?_
      refine ev_iinc (v := (x4 + 1)) (lv' := [(0, .ref 82), (1, .int x1), (2, .int x4), (3, .int x5), (4, .int (x4 + 1)), (5, .int x5), (6, .int x6)]) dX8_doctor_86 4 rfl rfl (by decide) [1, 2, 3, 4, 0, 5, 6] rfl ?_
      refine ev_goto (tgt := 19) dX8_doctor_89 rfl ?_
      refine EvW.less [0, 1, 2, 3, 4] (lv' := [(0, .ref 82), (1, .int x1), (2, .int x4), (3, .int x5), (4, .int (x4 + 1))]) rfl ?_
      exact h5
    · have h6 := h2.2 c4
      refine ev_iload dX8_doctor_74 5 rfl ?_
      refine ev_iload_n dX8_doctor_76 3 rfl ?_
      refine ev_icmp_ge (tgt := 86) dX8_doctor_77 rfl (fun c7 => ?_) (fun c7 => ?_)
      · have h8 := h6.1 c7
        refine ev_iinc (v := (x4 + 1)) (lv' := [(0, .ref 82), (1, .int x1), (2, .int x2), (3, .int x3), (4, .int (x4 + 1)), (5, .int x5), (6, .int x6)]) dX8_doctor_86 4 rfl rfl (by decide) [1, 2, 3, 4, 0, 5, 6] rfl ?_
        refine ev_goto (tgt := 19) dX8_doctor_89 rfl ?_
        refine EvW.less [0, 1, 2, 3, 4] (lv' := [(0, .ref 82), (1, .int x1), (2, .int x2), (3, .int x3), (4, .int (x4 + 1))]) rfl ?_
        exact h8
      · have h9 := h6.2 c7
        refine ev_iload dX8_doctor_80 4 rfl ?_
        refine ev_istore_n (lv' := [(0, .ref 82), (1, .int x1), (2, .int x4), (3, .int x3), (4, .int x4), (5, .int x5), (6, .int x6)]) dX8_doctor_82 (by decide) [1, 2, 0, 3, 4, 5, 6] rfl ?_
        refine ev_iload dX8_doctor_83 5 rfl ?_
        refine ev_istore_n (lv' := [(0, .ref 82), (1, .int x1), (2, .int x4), (3, .int x5), (4, .int x4), (5, .int x5), (6, .int x6)]) dX8_doctor_85 (by decide) [1, 2, 3, 0, 4, 5, 6] rfl ?_
        refine ev_iinc (v := (x4 + 1)) (lv' := [(0, .ref 82), (1, .int x1), (2, .int x4), (3, .int x5), (4, .int (x4 + 1)), (5, .int x5), (6, .int x6)]) dX8_doctor_86 4 rfl rfl (by decide) [1, 2, 3, 4, 0, 5, 6] rfl ?_
        refine ev_goto (tgt := 19) dX8_doctor_89 rfl ?_
        refine EvW.less [0, 1, 2, 3, 4] (lv' := [(0, .ref 82), (1, .int x1), (2, .int x4), (3, .int x5), (4, .int (x4 + 1))]) rfl ?_
        exact h9
  · have h3 := h.2 c1
    refine ev_iload dX8_doctor_49 5 rfl ?_
    refine ev_aload_n dX8_doctor_51 0 rfl (by decide) ?_
    refine ev_getR' fl_8_201 rfl kd_82 rf_82_32 dX8_doctor_52 ?_
    refine ev_iload dX8_doctor_55 6 rfl ?_
    have p10 := h3.1
    have h11 := h3.2
    refine ev_iaload' (v := (μ 101 x6.toNatClampNeg)) kd_101 ln_101 p10 rfl dX8_doctor_57 ?_
    refine ev_max ml_8_64 dX8_doctor_58 (Nat.le_of_ble_eq_true rfl) (by decide) ⟨Nat.le_refl _, Nat.le_refl _⟩ ?_
    refine ev_top (fun y12 ey12 => ?_)
    have h13 := h11 y12 ey12
    refine ev_istore (lv' := [(0, .ref 82), (1, .int x1), (2, .int x2), (3, .int x3), (4, .int x4), (5, .int y12), (6, .int x6)]) dX8_doctor_61 (by decide) [1, 2, 3, 4, 5, 0, 6] rfl ?_
    refine ev_iinc (v := (x6 + 1)) (lv' := [(0, .ref 82), (1, .int x1), (2, .int x2), (3, .int x3), (4, .int x4), (5, .int y12), (6, .int (x6 + 1))]) dX8_doctor_63 6 rfl rfl (by decide) [1, 2, 3, 4, 5, 6, 0] rfl ?_
    refine ev_goto (tgt := 42) dX8_doctor_66 rfl ?_
    exact h13
theorem lp_X8_docG {G : GW} {K : Option Value → Mem → Prop} {α ν τ : Mem} (hf : WF α) (e : ∀ k, k < 7 → ν 101 k = τ 0 k) {x1 x2 x3 x4 : Int32} (hk : Ev2 G mX8_doctor 5 42 [(0, .ref 82), (1, .int x1), (2, .int x2), (3, .int x3), (4, .int x4), (5, .int (grS τ 7)), (6, .int (nI 7))] [] ν K) : ∀ j i, i + j = 7 → Ev2 G mX8_doctor 5 42 [(0, .ref 82), (1, .int x1), (2, .int x2), (3, .int x3), (4, .int x4), (5, .int (grS τ i)), (6, .int (nI i))] [] ν K := by
  intro j
  induction j with
  | zero =>
    intro i hi
    obtain rfl : i = 7 := hi
    exact hk
  | succ j ih =>
    intro i hi
    have hx := ih (i + 1) (by omega)
    rw [show grS τ (i + 1) = imax (grS τ i) (τ 0 i) from rfl, ← nI_1] at hx
    refine sg_X8_doctor_42 hf ⟨fun c => absurd c (nI_ge (b := 7) (by omega) (by omega)), fun _ => ⟨vp_nI (by omega) (by omega), fun y hy => ?_⟩⟩
    rw [ix_nI (by omega), e i (by omega)] at hy
    rw [hy]
    exact hx
theorem lp_X8_doctor {G : GW} {α μ0 : Mem} (hf : WF α) {x1 : Int32} : ∀ j i (μ : Mem) (y2 y3 : Int32), i + j = 7 → (i = 0 ∧ y2 = -1 ∨ 1 ≤ i ∧ y3 = (docA α i).1 ∧ y2 = (docA α i).2) → VM α μ → keepX μ0 μ → Ev2 G mX8_doctor 5 19 [(0, .ref 82), (1, .int x1), (2, .int y2), (3, .int y3), (4, .int (nI i))] [] μ (fun v μ' => v = some (.int (sel2 x1 (docA α 7).1 (docA α 7).2)) ∧ VM α μ' ∧ keepX μ0 μ') := by
  intro j
  induction j with
  | zero =>
    intro i μ y2 y3 hi hy h hm
    obtain rfl : i = 7 := hi
    rcases hy with ⟨e, -⟩ | ⟨-, e3, e2⟩
    · omega
    · refine sg_X8_doctor_19 hf ⟨fun _ => ⟨fun c => ⟨?_, h, hm⟩, fun c => ⟨?_, h, hm⟩⟩, fun c => absurd (nI_le (a := 7) (Nat.le_refl _) (by omega)) c⟩
      · unfold sel2; rw [if_neg c, e2]
      · unfold sel2; rw [if_pos c, e3]
  | succ j ih =>
    intro i μ y2 y3 hi hy h hm
    refine sg_X8_doctor_19 hf ⟨fun c => absurd c (nI_ge (b := 7) (by omega) (by omega)), fun _ => ?_⟩
    rw [h.all]
    refine ⟨⟨h, inB_7 (by omega), allA_ok hf.1⟩, fun ν hν => ?_⟩
    rw [ix_nI (by omega)] at hν
    obtain ⟨ho, he⟩ := hν
    obtain ⟨h1, k1⟩ := h.o hf ho
    refine lp_X8_docG hf (τ := refS α (allA α) i) (fun k hk => he 0 (by omega) k hk) ?_ 7 0 rfl
    have hh := fun (z2 z3 : Int32) (hz : z3 = (docA α (i + 1)).1 ∧ z2 = (docA α (i + 1)).2) => ih (i + 1) ν z2 z3 (by omega) (Or.inr ⟨by omega, hz⟩) h1 (hm.tr k1)
    rw [← nI_1] at hh
    refine sg_X8_doctor_42 hf ⟨fun _ => ?_, fun c => absurd (nI_le (a := 7) (Nat.le_refl _) (by omega)) c⟩
    rcases hy with ⟨rfl, e⟩ | ⟨hi1, e3, e2⟩
    · rw [doc_1 hf, doc_gr hf (by omega)] at hh
      generalize grS (refS α (allA α) 0) 7 = g at *
      generalize docA α 7 = D at *
      exact ⟨fun _ => hh _ _ ⟨rfl, rfl⟩, fun c => absurd e c⟩
    · obtain ⟨q, hq, eq⟩ := doc_k (α := α) i (by omega)
      rw [docA_succ, doc_gr hf (by omega)] at hh
      unfold stepD at hh
      rw [← e3] at hh
      generalize grS (refS α (allA α) i) 7 = g at *
      refine ⟨fun c => ?_, fun _ => ⟨fun c => ?_, fun c => ?_⟩⟩
      · rw [e2, eq] at c
        exact absurd c (nI_m (by omega))
      · rw [if_pos c] at hh
        exact hh _ _ ⟨e3, e2⟩
      · rw [if_neg c] at hh
        exact hh _ _ ⟨rfl, rfl⟩
theorem pb_X8_doctor {G : GW} {α μ : Mem} (hf : WF α) (h : VM α μ) (x1 : Int32) : pubM G mX8_doctor 5 [(0, .ref 82), (1, .int x1)] α μ (.int (sp_doctor α x1)) α := by
  refine sg_X8_doctor_0 hf ?_
  unfold sp_doctor
  refine ⟨fun c => ?_, fun c => ?_⟩
  · rw [if_pos c]
    exact lp_X8_doctor hf 7 0 μ (-1) 0 rfl (Or.inl ⟨rfl, rfl⟩) h (keepX.rf μ)
  · rw [if_neg (by rw [c]; decide)]
    exact ⟨rfl, h, keepX.rf μ⟩
/-! lost -/
theorem sg_X8_lost_0 {G : GW} {K : Option Value → Mem → Prop} {μ : Mem} {α : Mem} (hf : WF α) {x1 x2 x3 : Int32}  (h : (((inB x1 0 6) = false) → K (some (.long (-4611686018427387904 : Int64))) μ) ∧ (((inB x1 0 6) = true) → (((inB x2 0 6) = false) → K (some (.long (-4611686018427387904 : Int64))) μ) ∧ (((inB x2 0 6) = true) → (((inB x3 (0 : Int32) (9999 : Int32)) = true) → Ev2 G mX8_lost 6 35 [(0, .ref 82), (1, .int x1), (2, .int x2), (3, .int x3), (4, .long (0 : Int64)), (6, .int 0)] [] μ K) ∧ (((inB x3 (0 : Int32) (9999 : Int32)) = false) → K (some (.long (-4611686018427387904 : Int64))) μ)))) : Ev2 G mX8_lost 6 0 [(0, .ref 82), (1, .int x1), (2, .int x2), (3, .int x3)] [] μ K := by
  refine ev_iload_n dX8_lost_0 1 rfl ?_
  refine e2_callS (w := .int (bi (inB x1 0 6))) (μ1 := μ) (as := [.int x1]) (st := []) ok_X8_isPlace sv_X8_isPlace ml_8_18 dX8_lost_1 rfl rfl (Nat.le_of_ble_eq_true rfl) (Nat.le_of_ble_eq_true rfl) (by decide) (ct_X8_isPlace (x1) μ) ?_
  refine ev_ifeq_bi (tgt := 25) dX8_lost_4 rfl (fun c1 => ?_) (fun c1 => ?_)
  · have h2 := h.1 c1
    refine ev_ldc2 dX8_lost_25 co_8_282 ?_
    exact ev_lreturn dX8_lost_28 rfl rfl rfl ⟨rfl, h2⟩
  · have h3 := h.2 c1
    refine ev_iload_n dX8_lost_7 2 rfl ?_
    refine e2_callS (w := .int (bi (inB x2 0 6))) (μ1 := μ) (as := [.int x2]) (st := []) ok_X8_isPlace sv_X8_isPlace ml_8_18 dX8_lost_8 rfl rfl (Nat.le_of_ble_eq_true rfl) (Nat.le_of_ble_eq_true rfl) (by decide) (ct_X8_isPlace (x2) μ) ?_
    refine ev_ifeq_bi (tgt := 25) dX8_lost_11 rfl (fun c4 => ?_) (fun c4 => ?_)
    · have h5 := h3.1 c4
      refine ev_ldc2 dX8_lost_25 co_8_282 ?_
      exact ev_lreturn dX8_lost_28 rfl rfl rfl ⟨rfl, h5⟩
    · have h6 := h3.2 c4
      refine ev_iload_n dX8_lost_14 3 rfl ?_
      refine ev_iconst (v := 0) dX8_lost_15 rfl ?_
      refine ev_sipush (v := 9999) dX8_lost_16 rfl ?_
      refine e2_callS (w := .int (bi (inB x3 (0 : Int32) (9999 : Int32)))) (μ1 := μ) (as := [.int x3, .int 0, .int 9999]) (st := []) ok_X8_isIn sv_X8_isIn ml_8_3 dX8_lost_19 rfl rfl (Nat.le_of_ble_eq_true rfl) (Nat.le_of_ble_eq_true rfl) (by decide) (ct_X8_isIn (x3) (0) (9999) μ) ?_
      refine ev_ifne_bi (tgt := 29) dX8_lost_22 rfl (fun c7 => ?_) (fun c7 => ?_)
      · have h8 := h6.1 c7
        refine ev_lconst (v := (0 : Int64)) dX8_lost_29 rfl ?_
        refine ev_lstore (lv' := [(0, .ref 82), (1, .int x1), (2, .int x2), (3, .int x3), (4, .long (0 : Int64))]) dX8_lost_30 (by decide) [1, 2, 3, 4, 0] rfl ?_
        refine ev_iconst (v := 0) dX8_lost_32 rfl ?_
        refine ev_istore (lv' := [(0, .ref 82), (1, .int x1), (2, .int x2), (3, .int x3), (4, .long (0 : Int64)), (6, .int 0)]) dX8_lost_33 (by decide) [1, 2, 3, 4, 5, 0] rfl ?_
        exact h8
      · have h9 := h6.2 c7
        refine ev_ldc2 dX8_lost_25 co_8_282 ?_
        exact ev_lreturn dX8_lost_28 rfl rfl rfl ⟨rfl, h9⟩
theorem sg_X8_lost_35 {G : GW} {K : Option Value → Mem → Prop} {μ : Mem} {α : Mem} (hf : WF α) {x1 x2 x3 x6 : Int32} {x4 : Int64}  (h : ((((((1 : Int32) <<< (μ 82 4 &&& 31)) - 1)) < x6) → K (some (.long x4)) μ) ∧ ((¬ (((((1 : Int32) <<< (μ 82 4 &&& 31)) - 1)) < x6)) → Ev2 G mX8_lost 6 52 [(0, .ref 82), (1, .int x1), (2, .int x2), (3, .int x3), (4, .long x4), (6, .int x6), (7, .long (1000000000 : Int64)), (9, .int 0)] [] μ K)) : Ev2 G mX8_lost 6 35 [(0, .ref 82), (1, .int x1), (2, .int x2), (3, .int x3), (4, .long x4), (6, .int x6)] [] μ K := by
  refine ev_iload dX8_lost_35 5 rfl ?_
  refine ev_aload_n dX8_lost_37 0 rfl (by decide) ?_
  refine e2_callV (w := .int ((((1 : Int32) <<< (μ 82 4 &&& 31)) - 1))) (μ1 := μ) (a := 82) (as := []) (st := [.int x6]) ok_X8_everyOne vi_X8_everyOne ml_8_262 hcl_8 kd_82 dX8_lost_38 rfl rfl (Nat.le_of_ble_eq_true rfl) (Nat.le_of_ble_eq_true rfl) (by decide) (ct_X8_everyOne μ) ?_
  refine ev_icmp_gt (tgt := 136) dX8_lost_41 rfl (fun c1 => ?_) (fun c1 => ?_)
  · have h2 := h.1 c1
    refine ev_lload dX8_lost_136 4 rfl ?_
    exact ev_lreturn dX8_lost_138 rfl rfl rfl ⟨rfl, h2⟩
  · have h3 := h.2 c1
    refine ev_ldc2 dX8_lost_44 co_8_284 ?_
    refine ev_lstore (lv' := [(0, .ref 82), (1, .int x1), (2, .int x2), (3, .int x3), (4, .long x4), (6, .int x6), (7, .long (1000000000 : Int64))]) dX8_lost_47 (by decide) [1, 2, 3, 4, 5, 6, 0] rfl ?_
    refine ev_iconst (v := 0) dX8_lost_49 rfl ?_
    refine ev_istore (lv' := [(0, .ref 82), (1, .int x1), (2, .int x2), (3, .int x3), (4, .long x4), (6, .int x6), (7, .long (1000000000 : Int64)), (9, .int 0)]) dX8_lost_50 (by decide) [1, 2, 3, 4, 5, 6, 7, 0] rfl ?_
    exact h3
theorem sg_X8_lost_52 {G : GW} {K : Option Value → Mem → Prop} {μ : Mem} {α : Mem} (hf : WF α) {x1 x2 x3 x6 x9 : Int32} {x4 x7 : Int64}  (h : (((μ 82 4) ≤ x9) → (VM α μ ∧ inB x1 0 6 = true ∧ inB x2 0 6 = true ∧ setOK (aN α) x6) ∧ ∀ (z6 : Int32) (μ7 : Mem), (z6 = soonA α x6 x1.toNatClampNeg x2.toNatClampNeg ∧ onlyM 99 105 μ μ7) → ((z6 ≤ x3) → Ev2 G mX8_lost 6 35 [(0, .ref 82), (1, .int x1), (2, .int x2), (3, .int x3), (4, .long (x4 + (0 : Int64))), (6, .int (x6 + 1))] [] μ7 K) ∧ ((¬ (z6 ≤ x3)) → Ev2 G mX8_lost 6 35 [(0, .ref 82), (1, .int x1), (2, .int x2), (3, .int x3), (4, .long (x4 + x7)), (6, .int (x6 + 1))] [] μ7 K)) ∧ ((¬ ((μ 82 4) ≤ x9)) → (VM α μ ∧ inB (2 : Int32) 0 2 = true ∧ inB x9 0 (α 0 0 - 1) = true) ∧ ∀ (z15 : Int32) (μ16 : Mem), (z15 = saidA α (2 : Int32).toNatClampNeg x9.toNatClampNeg ∧ onlyM 99 100 μ μ16) → ((¬ ((x6 >>> (x9 &&& 31)) &&& 1) = 1) → Ev2 G mX8_lost 6 52 [(0, .ref 82), (1, .int x1), (2, .int x2), (3, .int x3), (4, .long x4), (6, .int x6), (7, .long ((x7 * (Int32.toInt64 z15)) / (100 : Int64))), (9, .int (x9 + 1))] [] μ16 K) ∧ ((((x6 >>> (x9 &&& 31)) &&& 1) = 1) → Ev2 G mX8_lost 6 52 [(0, .ref 82), (1, .int x1), (2, .int x2), (3, .int x3), (4, .long x4), (6, .int x6), (7, .long ((x7 * (Int32.toInt64 (100 - z15))) / (100 : Int64))), (9, .int (x9 + 1))] [] μ16 K))) : Ev2 G mX8_lost 6 52 [(0, .ref 82), (1, .int x1), (2, .int x2), (3, .int x3), (4, .long x4), (6, .int x6), (7, .long x7), (9, .int x9)] [] μ K := by
  refine ev_iload dX8_lost_52 7 rfl ?_
  refine ev_aload_n dX8_lost_54 0 rfl (by decide) ?_
  refine ev_getI' (v := (μ 82 4)) fl_8_7 rfl kd_82 rfl dX8_lost_55 ?_
  refine ev_icmp_ge (tgt := 107) dX8_lost_58 rfl (fun c1 => ?_) (fun c1 => ?_)
  · have h2 := h.1 c1
    refine ev_lload dX8_lost_107 4 rfl ?_
    refine ev_aload_n dX8_lost_109 0 rfl (by decide) ?_
    refine ev_iload_n dX8_lost_110 1 rfl ?_
    refine ev_iload_n dX8_lost_111 2 rfl ?_
    refine ev_iload dX8_lost_112 5 rfl ?_
    have p4 := h2.1
    have h5 := h2.2
    refine e2_callVr (Rl := fun z6 μ7 => z6 = soonA α x6 x1.toNatClampNeg x2.toNatClampNeg ∧ onlyM 99 105 μ μ7) (a := 82) (as := [.int x1, .int x2, .int x6]) (st := [.long x4]) ok_X8_soonTo vi_X8_soonTo ml_8_272 hcl_8 kd_82 dX8_lost_114 rfl rfl (Nat.le_of_ble_eq_true rfl) (Nat.le_of_ble_eq_true rfl) (by decide) (ct_X8_soonTo hf (x1) (x2) (x6) μ p4) (fun z6 μ7 r8 => ?_)
    have h9 := h5 z6 μ7 r8
    refine ev_iload_n dX8_lost_117 3 rfl ?_
    refine ev_icmp_le (tgt := 126) dX8_lost_118 rfl (fun c10 => ?_) (fun c10 => ?_)
    · have h11 := h9.1 c10
      refine ev_lconst (v := (0 : Int64)) dX8_lost_126 rfl ?_
      refine ev_ladd dX8_lost_127 ?_
      refine ev_lstore (lv' := [(0, .ref 82), (1, .int x1), (2, .int x2), (3, .int x3), (4, .long (x4 + (0 : Int64))), (6, .int x6), (7, .long x7), (9, .int x9)]) dX8_lost_128 (by decide) [1, 2, 3, 4, 0, 5, 6, 7] rfl ?_
      refine ev_iinc (v := (x6 + 1)) (lv' := [(0, .ref 82), (1, .int x1), (2, .int x2), (3, .int x3), (4, .long (x4 + (0 : Int64))), (6, .int (x6 + 1)), (7, .long x7), (9, .int x9)]) dX8_lost_130 5 rfl rfl (by decide) [1, 2, 3, 4, 5, 0, 6, 7] rfl ?_
      refine ev_goto (tgt := 35) dX8_lost_133 rfl ?_
      refine EvW.less [0, 1, 2, 3, 4, 5] (lv' := [(0, .ref 82), (1, .int x1), (2, .int x2), (3, .int x3), (4, .long (x4 + (0 : Int64))), (6, .int (x6 + 1))]) rfl ?_
      exact h11
    · have h12 := h9.2 c10
      refine ev_lload dX8_lost_121 6 rfl ?_
      refine ev_goto (tgt := 127) dX8_lost_123 rfl ?_
      refine ev_ladd dX8_lost_127 ?_
      refine ev_lstore (lv' := [(0, .ref 82), (1, .int x1), (2, .int x2), (3, .int x3), (4, .long (x4 + x7)), (6, .int x6), (7, .long x7), (9, .int x9)]) dX8_lost_128 (by decide) [1, 2, 3, 4, 0, 5, 6, 7] rfl ?_
      refine ev_iinc (v := (x6 + 1)) (lv' := [(0, .ref 82), (1, .int x1), (2, .int x2), (3, .int x3), (4, .long (x4 + x7)), (6, .int (x6 + 1)), (7, .long x7), (9, .int x9)]) dX8_lost_130 5 rfl rfl (by decide) [1, 2, 3, 4, 5, 0, 6, 7] rfl ?_
      refine ev_goto (tgt := 35) dX8_lost_133 rfl ?_
      refine EvW.less [0, 1, 2, 3, 4, 5] (lv' := [(0, .ref 82), (1, .int x1), (2, .int x2), (3, .int x3), (4, .long (x4 + x7)), (6, .int (x6 + 1))]) rfl ?_
      exact h12
  · have h3 := h.2 c1
    refine ev_aload_n dX8_lost_61 0 rfl (by decide) ?_
    refine ev_iconst (v := 2) dX8_lost_62 rfl ?_
    refine ev_iload dX8_lost_63 7 rfl ?_
    have p13 := h3.1
    have h14 := h3.2
    refine e2_callVr (Rl := fun z15 μ16 => z15 = saidA α (2 : Int32).toNatClampNeg x9.toNatClampNeg ∧ onlyM 99 100 μ μ16) (a := 82) (as := [.int 2, .int x9]) (st := []) ok_X8_worthOf vi_X8_worthOf ml_8_60 hcl_8 kd_82 dX8_lost_65 rfl rfl (Nat.le_of_ble_eq_true rfl) (Nat.le_of_ble_eq_true rfl) (by decide) (ct_X8_worthOf hf (2) (x9) μ p13) (fun z15 μ16 r17 => ?_)
    have h18 := h14 z15 μ16 r17
    refine ev_istore (lv' := [(0, .ref 82), (1, .int x1), (2, .int x2), (3, .int x3), (4, .long x4), (6, .int x6), (7, .long x7), (9, .int x9), (10, .int z15)]) dX8_lost_68 (by decide) [1, 2, 3, 4, 5, 6, 7, 8, 0] rfl ?_
    refine ev_lload dX8_lost_70 6 rfl ?_
    refine ev_iload dX8_lost_72 5 rfl ?_
    refine ev_iload dX8_lost_74 7 rfl ?_
    refine ev_ishr dX8_lost_76 ?_
    refine ev_iconst (v := 1) dX8_lost_77 rfl ?_
    refine ev_iand dX8_lost_78 ?_
    refine ev_iconst (v := 1) dX8_lost_79 rfl ?_
    refine ev_icmp_ne (tgt := 91) dX8_lost_80 rfl (fun c19 => ?_) (fun c19 => ?_)
    · have h20 := h18.1 c19
      refine ev_iload dX8_lost_91 8 rfl ?_
      refine ev_i2l dX8_lost_93 ?_
      refine ev_lmul dX8_lost_94 ?_
      refine ev_ldc2 dX8_lost_95 co_8_286 ?_
      refine ev_ldiv dX8_lost_98 (by decide) ?_
      refine ev_lstore (lv' := [(0, .ref 82), (1, .int x1), (2, .int x2), (3, .int x3), (4, .long x4), (6, .int x6), (7, .long ((x7 * (Int32.toInt64 z15)) / (100 : Int64))), (9, .int x9), (10, .int z15)]) dX8_lost_99 (by decide) [1, 2, 3, 4, 5, 6, 0, 7, 8] rfl ?_
      refine ev_iinc (v := (x9 + 1)) (lv' := [(0, .ref 82), (1, .int x1), (2, .int x2), (3, .int x3), (4, .long x4), (6, .int x6), (7, .long ((x7 * (Int32.toInt64 z15)) / (100 : Int64))), (9, .int (x9 + 1)), (10, .int z15)]) dX8_lost_101 7 rfl rfl (by decide) [1, 2, 3, 4, 5, 6, 7, 0, 8] rfl ?_
      refine ev_goto (tgt := 52) dX8_lost_104 rfl ?_
      refine EvW.less [0, 1, 2, 3, 4, 5, 6, 7] (lv' := [(0, .ref 82), (1, .int x1), (2, .int x2), (3, .int x3), (4, .long x4), (6, .int x6), (7, .long ((x7 * (Int32.toInt64 z15)) / (100 : Int64))), (9, .int (x9 + 1))]) rfl ?_
      exact h20
    · have h21 := h18.2 c19
      refine ev_bipush (v := 100) dX8_lost_83 rfl ?_
      refine ev_iload dX8_lost_85 8 rfl ?_
      refine ev_isub dX8_lost_87 ?_
      refine ev_goto (tgt := 93) dX8_lost_88 rfl ?_
      refine ev_i2l dX8_lost_93 ?_
      refine ev_lmul dX8_lost_94 ?_
      refine ev_ldc2 dX8_lost_95 co_8_286 ?_
      refine ev_ldiv dX8_lost_98 (by decide) ?_
      refine ev_lstore (lv' := [(0, .ref 82), (1, .int x1), (2, .int x2), (3, .int x3), (4, .long x4), (6, .int x6), (7, .long ((x7 * (Int32.toInt64 (100 - z15))) / (100 : Int64))), (9, .int x9), (10, .int z15)]) dX8_lost_99 (by decide) [1, 2, 3, 4, 5, 6, 0, 7, 8] rfl ?_
      refine ev_iinc (v := (x9 + 1)) (lv' := [(0, .ref 82), (1, .int x1), (2, .int x2), (3, .int x3), (4, .long x4), (6, .int x6), (7, .long ((x7 * (Int32.toInt64 (100 - z15))) / (100 : Int64))), (9, .int (x9 + 1)), (10, .int z15)]) dX8_lost_101 7 rfl rfl (by decide) [1, 2, 3, 4, 5, 6, 7, 0, 8] rfl ?_
      refine ev_goto (tgt := 52) dX8_lost_104 rfl ?_
      refine EvW.less [0, 1, 2, 3, 4, 5, 6, 7] (lv' := [(0, .ref 82), (1, .int x1), (2, .int x2), (3, .int x3), (4, .long x4), (6, .int x6), (7, .long ((x7 * (Int32.toInt64 (100 - z15))) / (100 : Int64))), (9, .int (x9 + 1))]) rfl ?_
      exact h21
theorem lp_X8_lostL {G : GW} {α : Mem} (hf : WF α) {μ0 : Mem} {x1 x2 x3 x6 : Int32} {x4 : Int64} {K : Option Value → Mem → Prop} (hk : ∀ ν, VM α ν → keepX μ0 ν → Ev2 G mX8_lost 6 52 [(0, .ref 82), (1, .int x1), (2, .int x2), (3, .int x3), (4, .long x4), (6, .int x6), (7, .long (livV (fun i => saidA α 2 i) x6 (aN α))), (9, .int (nI (aN α)))] [] ν K) : ∀ j i (ν : Mem), i + j = aN α → VM α ν → keepX μ0 ν → Ev2 G mX8_lost 6 52 [(0, .ref 82), (1, .int x1), (2, .int x2), (3, .int x3), (4, .long x4), (6, .int x6), (7, .long (livV (fun i => saidA α 2 i) x6 i)), (9, .int (nI i))] [] ν K := by
  have hn7 := hf.1.1.2
  intro j
  induction j with
  | zero =>
    intro i ν hi h hm
    obtain rfl : i = aN α := hi
    exact hk ν h hm
  | succ j ih =>
    intro i ν hi h hm
    have hh := fun ν => ih (i + 1) ν (by omega)
    have ep : livV (fun i => saidA α 2 i) x6 (i + 1) = livV (fun i => saidA α 2 i) x6 i * (Int32.toInt64 (if bitB x6 (nI i) = true then 100 - saidA α 2 i else saidA α 2 i)) / 100 := rfl
    rw [ep, ← nI_1] at hh
    refine sg_X8_lost_52 hf ⟨fun c => ?_, fun _ => ⟨⟨h, by decide, inB_h hf (by omega)⟩, fun x ξ hx => ?_⟩⟩
    · rw [h.n hf] at c
      exact absurd c (nI_ge (by omega) (by omega))
    · obtain ⟨ex, ho⟩ := hx
      have ex : x = saidA α 2 (nI i).toNatClampNeg := ex
      rw [ix_nI (by omega)] at ex
      obtain ⟨h1, k1⟩ := h.W hf ho
      rw [← ex] at hh
      refine ⟨fun c => ?_, fun c => ?_⟩
      · rw [if_neg (fun q => c (bitB_1.mp q))] at hh
        exact hh ξ h1 (hm.tr k1)
      · rw [if_pos (bitB_1.mpr c)] at hh
        exact hh ξ h1 (hm.tr k1)
theorem lp_X8_lost {G : GW} {α μ0 : Mem} (hf : WF α) {a b : Nat} (ha : a < 7) (hb : b < 7) {x3 : Int32} : ∀ j k (μ : Mem), k + j = 2 ^ aN α → VM α μ → keepX μ0 μ → Ev2 G mX8_lost 6 35 [(0, .ref 82), (1, .int (nI a)), (2, .int (nI b)), (3, .int x3), (4, .long (lostA α a b x3 k)), (6, .int (nI k))] [] μ (fun v μ' => v = some (.long (lostA α a b x3 (2 ^ aN α))) ∧ VM α μ' ∧ keepX μ0 μ') := by
  intro j
  induction j with
  | zero =>
    intro k μ hk h hm
    obtain rfl : k = 2 ^ aN α := by omega
    refine sg_X8_lost_35 hf ⟨fun _ => ⟨rfl, h, hm⟩, fun c => ?_⟩
    rw [h.all] at c
    exact absurd (sets_out hf.1) c
  | succ j ih =>
    intro k μ hk h hm
    refine sg_X8_lost_35 hf ⟨fun c => ?_, fun _ => ?_⟩
    · rw [h.all] at c
      exact absurd c (sets_in hf.1 (by omega))
    · have hs := setOK_nI (n := aN α) hf.1.1.2 (k := k) (by omega)
      have hh := fun μ => ih (k + 1) μ (by omega)
      rw [lostA_succ, ← nI_1] at hh
      have L := lp_X8_lostL (G := G) hf (μ0 := μ0) (x1 := nI a) (x2 := nI b) (x3 := x3) (x6 := nI k) (x4 := lostA α a b x3 k) (K := fun v μ' => v = some (.long (lostA α a b x3 (2 ^ aN α))) ∧ VM α μ' ∧ keepX μ0 μ') (fun ν h1 k1 => ?_) (aN α) 0 μ (Nat.zero_add _) h hm
      · exact L
      · refine sg_X8_lost_52 hf ⟨fun _ => ⟨⟨h1, inB_7 ha, inB_7 hb, hs⟩, fun x ξ hx => ?_⟩, fun c => ?_⟩
        · rw [ix_nI (by omega), ix_nI (by omega)] at hx
          obtain ⟨ex, ho⟩ := hx
          obtain ⟨h2, k2⟩ := h1.o hf ho
          rw [← ex] at hh
          refine ⟨fun c => ?_, fun c => ?_⟩
          · rw [if_pos c] at hh
            rw [Int64.add_zero]
            exact hh ξ h2 (k1.tr k2)
          · rw [if_neg c] at hh
            exact hh ξ h2 (k1.tr k2)
        · rw [h1.n hf] at c
          exact absurd (Int32.le_refl _) c
theorem pb_X8_lost {G : GW} {α μ : Mem} (hf : WF α) (h : VM α μ) (x1 x2 x3 : Int32) : pubM G mX8_lost 6 [(0, .ref 82), (1, .int x1), (2, .int x2), (3, .int x3)] α μ (.long (sp_lost α x1 x2 x3)) α := by
  refine sg_X8_lost_0 hf ?_
  unfold sp_lost
  refine ⟨fun c => ?_, fun c => ⟨fun d => ?_, fun d => ⟨fun e => ?_, fun e => ?_⟩⟩⟩
  · rw [if_neg (by rw [c]; decide)]
    exact ⟨rfl, h, keepX.rf μ⟩
  · rw [if_pos c, if_neg (by rw [d]; decide)]
    exact ⟨rfl, h, keepX.rf μ⟩
  · rw [if_pos c, if_pos d, if_pos e]
    obtain ⟨a, ha, rfl⟩ := inB_p c
    obtain ⟨b, hb, rfl⟩ := inB_p d
    rw [ix_nI (i := a) (by omega), ix_nI (i := b) (by omega)]
    exact lp_X8_lost hf ha hb (2 ^ aN α) 0 μ (by omega) h (keepX.rf μ)
  · rw [if_pos c, if_pos d, if_neg (by rw [e]; decide)]
    exact ⟨rfl, h, keepX.rf μ⟩
