/-! ===== the class's public methods: teach, move, cut, image, back ===== -/
theorem rid_of {β μ : Mem} {set : Int32} (hh : vXh β μ) (hsd : vXs β μ) (hw : vXw β μ) (hr : vXr β μ) (hc : μ 10 10 = β 0 1) (hs : setOK (aN β) set) : riddenX μ set = ridA β set := by
  unfold riddenX ridA
  rw [hc]
  refine ridV_congr _ (fun r hr' => ?_)
  have q := hr r hr'
  rw [q.1, q.2]
  unfold soonV soonA soonV
  rw [runV_congr (alikeX_of hs hh hsd hw)]
theorem go_of {β μ : Mem} {set : Int32} (hf : WF β) (hh : vXh β μ) (hsd : vXs β μ) (hw : vXw β μ) (hs : setOK (aN β) set) : goOK (goX μ) set := fun i hi hb p hp => by
  rw [(alikeX_of hs hh hsd hw).1 i hi hb p hp]
  exact goA_ok hf.2.2.2.1 hs i hi hb p hp
def stepT (s : Int32 × Int32) (t code : Int32) : Int32 × Int32 := if s.1 ≤ t then s else (t, code)
def taughtA (α : Mem) (w : Nat) : Mem := newA α 0 (nI (w / 7)) (nI (w % 7)) (imax 1 (α 1 w / 3)) 0
def tchA (α : Mem) : Nat → Int32 × Int32
  | 0 => (ridA α (allA α), -1)
  | w + 1 => if w / 7 = w % 7 then tchA α w else stepT (tchA α w) (ridA (taughtA α w) (allA α ||| (1 <<< (α 0 0 &&& 31)))) (10 * nI (w / 7) + nI (w % 7))
theorem tchA_01 (α : Mem) : (tchA α 0).1 = ridA α (allA α) := by rw [tchA]
theorem tchA_02 (α : Mem) : (tchA α 0).2 = -1 := by rw [tchA]
theorem tchA_succ (α : Mem) (w : Nat) : tchA α (w + 1) = if w / 7 = w % 7 then tchA α w else stepT (tchA α w) (ridA (taughtA α w) (allA α ||| (1 <<< (α 0 0 &&& 31)))) (10 * nI (w / 7) + nI (w % 7)) := by rw [tchA]
def sp_teach (α : Mem) (what : Int32) : Int32 := if inB what 0 1 = true then (if α 0 0 < 7 then sel2 what (tchA α 49).2 (tchA α 49).1 else -3) else -2
theorem third_ok {v : Nat} (hv : v ≤ 999) : ∃ u, 1 ≤ u ∧ u ≤ 999 ∧ imax 1 (nI v / 3) = nI u := by
  have e : nI v / 3 = nI (v / 3) := pk_div (a := v) (d := 3) (by omega) (by omega) (by omega)
  rw [e]
  unfold imax
  split
  · rename_i c
    refine ⟨v / 3, ?_, by omega, rfl⟩
    rw [i_lt, nI_toInt (by omega)] at c
    have e1 : (1 : Int32).toInt = 1 := by decide
    rw [e1] at c
    omega
  · exact ⟨1, by omega, by omega, rfl⟩
theorem wf_taught {α : Mem} (hf : WF α) (hn : aN α < 7) {w : Nat} (hw : w < 49) (hd : w / 7 ≠ w % 7) : WF (taughtA α w) := by
  obtain ⟨v, h1, h2, h3, -⟩ := hf.2.1 (w / 7) (w % 7) (by omega) (by omega) hd
  rw [show 7 * (w / 7) + w % 7 = w by omega] at h3
  unfold taughtA
  rw [h3]
  exact wf_new hf hn ⟨0, by omega, rfl⟩ ⟨w / 7, by omega, rfl⟩ ⟨w % 7, by omega, rfl⟩ (fun q => hd ((nI_eq (by omega) (by omega)).mp q)) (third_ok h2) ⟨0, by omega, rfl⟩
theorem all_more {α : Mem} (hf : wfC α) (hn : aN α < 7) : setOK (aN α + 1) (allA α ||| (1 <<< (α 0 0 &&& 31))) := by
  intro i h1 h2
  have e : α 0 0 = nI (aN α) := hf.1.1
  rw [bitB_or (by omega), allA_ok hf i (by omega) h2, e, bitB_one (by omega) (by omega)]
  simp
  omega
theorem sg_X7_teach_0 {G : GW} {K : Option Value → Mem → Prop} {μ : Mem} {x1 : Int32}  (h : (((inB x1 (0 : Int32) (1 : Int32)) = true) → (((μ 10 9) < 7) → (ridOK μ ∧ goOK (goX μ) ((((1 : Int32) <<< (μ 10 9 &&& 31)) - 1))) ∧ ∀ (z9 : Int32) (μ10 : Mem), (z9 = riddenX μ ((((1 : Int32) <<< (μ 10 9 &&& 31)) - 1)) ∧ sameQ μ μ10) → (vp_in (μ10 10 9) 7) ∧ Ev2 G mX7_teach 8 49 [(0, .ref 10), (1, .int x1), (2, .int z9), (3, .int (-1)), (4, .ref (43 + (μ10 10 9).toNatClampNeg)), (5, .int 0)] [] μ10 K) ∧ ((¬ ((μ 10 9) < 7)) → K (some (.int (-3))) μ)) ∧ (((inB x1 (0 : Int32) (1 : Int32)) = false) → K (some (.int (-2))) μ)) : Ev2 G mX7_teach 8 0 [(0, .ref 10), (1, .int x1)] [] μ K := by
  refine ev_iload_n dX7_teach_0 1 rfl ?_
  refine ev_iconst (v := 0) dX7_teach_1 rfl ?_
  refine ev_iconst (v := 1) dX7_teach_2 rfl ?_
  refine e2_callS (w := .int (bi (inB x1 (0 : Int32) (1 : Int32)))) (μ1 := μ) (as := [.int x1, .int 0, .int 1]) (st := []) ok_X7_isWithin sv_X7_isWithin ml_7_86 dX7_teach_3 rfl rfl (Nat.le_of_ble_eq_true rfl) (Nat.le_of_ble_eq_true rfl) (by decide) (ct_X7_isWithin (x1) (0) (1) μ) ?_
  refine ev_ifne_bi (tgt := 12) dX7_teach_6 rfl (fun c1 => ?_) (fun c1 => ?_)
  · have h2 := h.1 c1
    refine ev_aload_n dX7_teach_12 0 rfl (by decide) ?_
    refine ev_getI' (v := (μ 10 9)) fl_7_60 rfl kd_10 rfl dX7_teach_13 ?_
    refine ev_bipush (v := 7) dX7_teach_16 rfl ?_
    refine ev_icmp_lt (tgt := 24) dX7_teach_18 rfl (fun c4 => ?_) (fun c4 => ?_)
    · have h5 := h2.1 c4
      refine ev_aload_n dX7_teach_24 0 rfl (by decide) ?_
      refine ev_aload_n dX7_teach_25 0 rfl (by decide) ?_
      refine e2_callV (w := .int ((((1 : Int32) <<< (μ 10 9 &&& 31)) - 1))) (μ1 := μ) (a := 10) (as := []) (st := [.ref 10]) ok_X7_allHorses vi_X7_allHorses ml_7_176 hcl_7 kd_10 dX7_teach_26 rfl rfl (Nat.le_of_ble_eq_true rfl) (Nat.le_of_ble_eq_true rfl) (by decide) (ct_X7_allHorses μ) ?_
      have p7 := h5.1
      have h8 := h5.2
      refine e2_callVr (Rl := fun z9 μ10 => z9 = riddenX μ ((((1 : Int32) <<< (μ 10 9 &&& 31)) - 1)) ∧ sameQ μ μ10) (a := 10) (as := [.int ((((1 : Int32) <<< (μ 10 9 &&& 31)) - 1))]) (st := []) ok_X7_ridden vi_X7_ridden ml_7_206 hcl_7 kd_10 dX7_teach_29 rfl rfl (Nat.le_of_ble_eq_true rfl) (Nat.le_of_ble_eq_true rfl) (by decide) (ct_X7_ridden (((((1 : Int32) <<< (μ 10 9 &&& 31)) - 1))) μ p7) (fun z9 μ10 r11 => ?_)
      have h12 := h8 z9 μ10 r11
      refine ev_istore_n (lv' := [(0, .ref 10), (1, .int x1), (2, .int z9)]) dX7_teach_32 (by decide) [1, 2, 0] rfl ?_
      refine ev_iconst (v := (-1)) dX7_teach_33 rfl ?_
      refine ev_istore_n (lv' := [(0, .ref 10), (1, .int x1), (2, .int z9), (3, .int (-1))]) dX7_teach_34 (by decide) [1, 2, 3, 0] rfl ?_
      refine ev_aload_n dX7_teach_35 0 rfl (by decide) ?_
      refine ev_getR' fl_7_16 rfl kd_10 rf_10_1 dX7_teach_36 ?_
      refine ev_aload_n dX7_teach_39 0 rfl (by decide) ?_
      refine ev_getI' (v := (μ10 10 9)) fl_7_60 rfl kd_10 rfl dX7_teach_40 ?_
      have p13 := h12.1
      have h14 := h12.2
      refine ev_aaload' (k := 5) kd_19 (by omega) ln_19 p13 (raH p13) dX7_teach_43 ?_
      refine ev_astore (lv' := [(0, .ref 10), (1, .int x1), (2, .int z9), (3, .int (-1)), (4, .ref (43 + (μ10 10 9).toNatClampNeg))]) dX7_teach_44 (nzHo (isH p13)) (by decide) [1, 2, 3, 4, 0] rfl ?_
      refine ev_iconst (v := 0) dX7_teach_46 rfl ?_
      refine ev_istore (lv' := [(0, .ref 10), (1, .int x1), (2, .int z9), (3, .int (-1)), (4, .ref (43 + (μ10 10 9).toNatClampNeg)), (5, .int 0)]) dX7_teach_47 (by decide) [1, 2, 3, 4, 5, 0] rfl ?_
      exact h14
    · have h6 := h2.2 c4
      refine ev_bipush (v := (-3)) dX7_teach_21 rfl ?_
      exact ev_ireturn dX7_teach_23 rfl True.intro rfl rfl ⟨rfl, h6⟩
  · have h3 := h.2 c1
    refine ev_bipush (v := (-2)) dX7_teach_9 rfl ?_
    exact ev_ireturn dX7_teach_11 rfl True.intro rfl rfl ⟨rfl, h3⟩
theorem sg_X7_teach_49 {G : GW} {K : Option Value → Mem → Prop} {μ : Mem} {x1 x2 x3 x5 : Int32} {r4 : Nat} (hr4 : isHo r4) (h : ((49 ≤ x5) → ((¬ x1 = 0) → K (some (.int x2)) μ) ∧ ((x1 = 0) → K (some (.int x3)) μ)) ∧ ((¬ (49 ≤ x5)) → (((x5 / 7) = (x5 - x5 / 7 * 7)) → Ev2 G mX7_teach 8 49 [(0, .ref 10), (1, .int x1), (2, .int x2), (3, .int x3), (4, .ref r4), (5, .int (x5 + 1))] [] μ K) ∧ ((¬ ((x5 / 7) = (x5 - x5 / 7 * 7))) → (vp_in (x5 / 7) 7) ∧ (vp_in (x5 - x5 / 7 * 7) 7) ∧ (hearOK (becomeM μ r4 (0 : Int32) (x5 / 7) (x5 - x5 / 7 * 7) (imax 1 ((μ (12 + (x5 / 7).toNatClampNeg) (x5 - x5 / 7 * 7).toNatClampNeg) / 3)) (0 : Int32)) r4) ∧ ∀ μ16 : Mem, (hearR (becomeM μ r4 (0 : Int32) (x5 / 7) (x5 - x5 / 7 * 7) (imax 1 ((μ (12 + (x5 / 7).toNatClampNeg) (x5 - x5 / 7 * 7).toNatClampNeg) / 3)) (0 : Int32)) r4 μ16) → (ridOK μ16 ∧ goOK (goX μ16) (((((1 : Int32) <<< (μ16 10 9 &&& 31)) - 1)) ||| ((1 : Int32) <<< ((μ16 10 9) &&& 31)))) ∧ ∀ (z21 : Int32) (μ22 : Mem), (z21 = riddenX μ16 (((((1 : Int32) <<< (μ16 10 9 &&& 31)) - 1)) ||| ((1 : Int32) <<< ((μ16 10 9) &&& 31))) ∧ sameQ μ16 μ22) → ((x2 ≤ z21) → Ev2 G mX7_teach 8 49 [(0, .ref 10), (1, .int x1), (2, .int x2), (3, .int x3), (4, .ref r4), (5, .int (x5 + 1))] [] μ22 K) ∧ ((¬ (x2 ≤ z21)) → ∀ y28 : Int32, y28 = ((10 * (x5 / 7)) + (x5 - x5 / 7 * 7)) → Ev2 G mX7_teach 8 49 [(0, .ref 10), (1, .int x1), (2, .int z21), (3, .int y28), (4, .ref r4), (5, .int (x5 + 1))] [] μ22 K)))) : Ev2 G mX7_teach 8 49 [(0, .ref 10), (1, .int x1), (2, .int x2), (3, .int x3), (4, .ref r4), (5, .int x5)] [] μ K := by
  refine ev_iload dX7_teach_49 5 rfl ?_
  refine ev_bipush (v := 49) dX7_teach_51 rfl ?_
  refine ev_icmp_ge (tgt := 151) dX7_teach_53 rfl (fun c1 => ?_) (fun c1 => ?_)
  · have h2 := h.1 c1
    refine ev_iload_n dX7_teach_151 1 rfl ?_
    refine ev_if_ne (tgt := 159) dX7_teach_152 rfl (fun c4 => ?_) (fun c4 => ?_)
    · have h5 := h2.1 c4
      refine ev_iload_n dX7_teach_159 2 rfl ?_
      exact ev_ireturn dX7_teach_160 rfl True.intro rfl rfl ⟨rfl, h5⟩
    · have h6 := h2.2 c4
      refine ev_iload_n dX7_teach_155 3 rfl ?_
      refine ev_goto (tgt := 160) dX7_teach_156 rfl ?_
      exact ev_ireturn dX7_teach_160 rfl True.intro rfl rfl ⟨rfl, h6⟩
  · have h3 := h.2 c1
    refine ev_iload dX7_teach_56 5 rfl ?_
    refine ev_bipush (v := 7) dX7_teach_58 rfl ?_
    refine ev_idiv dX7_teach_60 (by decide) ?_
    refine ev_istore (lv' := [(0, .ref 10), (1, .int x1), (2, .int x2), (3, .int x3), (4, .ref r4), (5, .int x5), (6, .int (x5 / 7))]) dX7_teach_61 (by decide) [1, 2, 3, 4, 5, 6, 0] rfl ?_
    refine ev_iload dX7_teach_63 5 rfl ?_
    refine ev_bipush (v := 7) dX7_teach_65 rfl ?_
    refine ev_irem dX7_teach_67 (by decide) ?_
    refine ev_istore (lv' := [(0, .ref 10), (1, .int x1), (2, .int x2), (3, .int x3), (4, .ref r4), (5, .int x5), (6, .int (x5 / 7)), (7, .int (x5 - x5 / 7 * 7))]) dX7_teach_68 (by decide) [1, 2, 3, 4, 5, 6, 7, 0] rfl ?_
    refine ev_iload dX7_teach_70 6 rfl ?_
    refine ev_iload dX7_teach_72 7 rfl ?_
    refine ev_icmp_eq (tgt := 145) dX7_teach_74 rfl (fun c7 => ?_) (fun c7 => ?_)
    · have h8 := h3.1 c7
      refine ev_iinc (v := (x5 + 1)) (lv' := [(0, .ref 10), (1, .int x1), (2, .int x2), (3, .int x3), (4, .ref r4), (5, .int (x5 + 1)), (6, .int (x5 / 7)), (7, .int (x5 - x5 / 7 * 7))]) dX7_teach_145 5 rfl rfl (by decide) [1, 2, 3, 4, 5, 0, 6, 7] rfl ?_
      refine ev_goto (tgt := 49) dX7_teach_148 rfl ?_
      refine EvW.less [0, 1, 2, 3, 4, 5] (lv' := [(0, .ref 10), (1, .int x1), (2, .int x2), (3, .int x3), (4, .ref r4), (5, .int (x5 + 1))]) rfl ?_
      exact h8
    · have h9 := h3.2 c7
      refine ev_aload dX7_teach_77 4 rfl (nzHo hr4) ?_
      refine ev_iconst (v := 0) dX7_teach_79 rfl ?_
      refine ev_iload dX7_teach_80 6 rfl ?_
      refine ev_iload dX7_teach_82 7 rfl ?_
      refine ev_iconst (v := 1) dX7_teach_84 rfl ?_
      refine ev_aload_n dX7_teach_85 0 rfl (by decide) ?_
      refine ev_getR' fl_7_11 rfl kd_10 rf_10_0 dX7_teach_86 ?_
      refine ev_iload dX7_teach_89 6 rfl ?_
      have p10 := h9.1
      have h11 := h9.2
      refine ev_aaload' (k := 4) kd_11 (by omega) ln_11 p10 (raW p10) dX7_teach_91 ?_
      refine ev_iload dX7_teach_92 7 rfl ?_
      have p12 := h11.1
      have h13 := h11.2
      refine ev_iaload' (v := (μ (12 + (x5 / 7).toNatClampNeg) (x5 - x5 / 7 * 7).toNatClampNeg)) (kdRw (isW p10)) (lnRw (isW p10)) p12 rfl dX7_teach_94 ?_
      refine ev_iconst (v := 3) dX7_teach_95 rfl ?_
      refine ev_idiv dX7_teach_96 (by decide) ?_
      refine ev_max ml_7_202 dX7_teach_97 (Nat.le_of_ble_eq_true rfl) (by decide) ⟨Nat.le_refl _, Nat.le_refl _⟩ ?_
      refine ev_iconst (v := 0) dX7_teach_100 rfl ?_
      refine e2_callVv (μ1 := (becomeM μ r4 (0 : Int32) (x5 / 7) (x5 - x5 / 7 * 7) (imax 1 ((μ (12 + (x5 / 7).toNatClampNeg) (x5 - x5 / 7 * 7).toNatClampNeg) / 3)) (0 : Int32))) (a := r4) (as := [.int 0, .int (x5 / 7), .int (x5 - x5 / 7 * 7), .int (imax 1 ((μ (12 + (x5 / 7).toNatClampNeg) (x5 - x5 / 7 * 7).toNatClampNeg) / 3)), .int 0]) (st := []) ok_X0_become vi_X0_become ml_7_140 hcl_0 (kdHo hr4) dX7_teach_101 rfl rfl (Nat.le_of_ble_eq_true rfl) (Nat.le_of_ble_eq_true rfl) (by decide) (ct_X0_become r4 hr4 (0) ((x5 / 7)) ((x5 - x5 / 7 * 7)) ((imax 1 ((μ (12 + (x5 / 7).toNatClampNeg) (x5 - x5 / 7 * 7).toNatClampNeg) / 3))) (0) μ) ?_
      refine ev_aload_n dX7_teach_104 0 rfl (by decide) ?_
      refine ev_aload dX7_teach_105 4 rfl (nzHo hr4) ?_
      have p14 := h13.1
      have h15 := h13.2
      refine e2_callVrv (Rl := fun μ16 => hearR (becomeM μ r4 (0 : Int32) (x5 / 7) (x5 - x5 / 7 * 7) (imax 1 ((μ (12 + (x5 / 7).toNatClampNeg) (x5 - x5 / 7 * 7).toNatClampNeg) / 3)) (0 : Int32)) r4 μ16) (a := 10) (as := [.ref r4]) (st := []) ok_X7_hearLaw vi_X7_hearLaw ml_7_144 hcl_7 kd_10 dX7_teach_107 rfl rfl (Nat.le_of_ble_eq_true rfl) (Nat.le_of_ble_eq_true rfl) (by decide) (ct_X7_hearLaw r4 hr4 (becomeM μ r4 (0 : Int32) (x5 / 7) (x5 - x5 / 7 * 7) (imax 1 ((μ (12 + (x5 / 7).toNatClampNeg) (x5 - x5 / 7 * 7).toNatClampNeg) / 3)) (0 : Int32)) p14) (fun μ16 r17 => ?_)
      have h18 := h15 μ16 r17
      refine ev_aload_n dX7_teach_110 0 rfl (by decide) ?_
      refine ev_aload_n dX7_teach_111 0 rfl (by decide) ?_
      refine e2_callV (w := .int ((((1 : Int32) <<< (μ16 10 9 &&& 31)) - 1))) (μ1 := μ16) (a := 10) (as := []) (st := [.ref 10]) ok_X7_allHorses vi_X7_allHorses ml_7_176 hcl_7 kd_10 dX7_teach_112 rfl rfl (Nat.le_of_ble_eq_true rfl) (Nat.le_of_ble_eq_true rfl) (by decide) (ct_X7_allHorses μ16) ?_
      refine ev_iconst (v := 1) dX7_teach_115 rfl ?_
      refine ev_aload_n dX7_teach_116 0 rfl (by decide) ?_
      refine ev_getI' (v := (μ16 10 9)) fl_7_60 rfl kd_10 rfl dX7_teach_117 ?_
      refine ev_ishl dX7_teach_120 ?_
      refine ev_ior dX7_teach_121 ?_
      have p19 := h18.1
      have h20 := h18.2
      refine e2_callVr (Rl := fun z21 μ22 => z21 = riddenX μ16 (((((1 : Int32) <<< (μ16 10 9 &&& 31)) - 1)) ||| ((1 : Int32) <<< ((μ16 10 9) &&& 31))) ∧ sameQ μ16 μ22) (a := 10) (as := [.int (((((1 : Int32) <<< (μ16 10 9 &&& 31)) - 1)) ||| ((1 : Int32) <<< ((μ16 10 9) &&& 31)))]) (st := []) ok_X7_ridden vi_X7_ridden ml_7_206 hcl_7 kd_10 dX7_teach_122 rfl rfl (Nat.le_of_ble_eq_true rfl) (Nat.le_of_ble_eq_true rfl) (by decide) (ct_X7_ridden ((((((1 : Int32) <<< (μ16 10 9 &&& 31)) - 1)) ||| ((1 : Int32) <<< ((μ16 10 9) &&& 31)))) μ16 p19) (fun z21 μ22 r23 => ?_)
      have h24 := h20 z21 μ22 r23
      refine ev_istore (lv' := [(0, .ref 10), (1, .int x1), (2, .int x2), (3, .int x3), (4, .ref r4), (5, .int x5), (6, .int (x5 / 7)), (7, .int (x5 - x5 / 7 * 7)), (8, .int z21)]) dX7_teach_125 (by decide) [1, 2, 3, 4, 5, 6, 7, 8, 0] rfl ?_
      refine ev_iload dX7_teach_127 8 rfl ?_
      refine ev_iload_n dX7_teach_129 2 rfl ?_
      refine ev_icmp_ge (tgt := 145) dX7_teach_130 rfl (fun c25 => ?_) (fun c25 => ?_)
      · have h26 := h24.1 c25
        refine ev_iinc (v := (x5 + 1)) (lv' := [(0, .ref 10), (1, .int x1), (2, .int x2), (3, .int x3), (4, .ref r4), (5, .int (x5 + 1)), (6, .int (x5 / 7)), (7, .int (x5 - x5 / 7 * 7)), (8, .int z21)]) dX7_teach_145 5 rfl rfl (by decide) [1, 2, 3, 4, 5, 0, 6, 7, 8] rfl ?_
        refine ev_goto (tgt := 49) dX7_teach_148 rfl ?_
        refine EvW.less [0, 1, 2, 3, 4, 5] (lv' := [(0, .ref 10), (1, .int x1), (2, .int x2), (3, .int x3), (4, .ref r4), (5, .int (x5 + 1))]) rfl ?_
        exact h26
      · have h27 := h24.2 c25
        refine ev_iload dX7_teach_133 8 rfl ?_
        refine ev_istore_n (lv' := [(0, .ref 10), (1, .int x1), (2, .int z21), (3, .int x3), (4, .ref r4), (5, .int x5), (6, .int (x5 / 7)), (7, .int (x5 - x5 / 7 * 7)), (8, .int z21)]) dX7_teach_135 (by decide) [1, 2, 0, 3, 4, 5, 6, 7, 8] rfl ?_
        refine ev_bipush (v := 10) dX7_teach_136 rfl ?_
        refine ev_iload dX7_teach_138 6 rfl ?_
        refine ev_imul dX7_teach_140 ?_
        refine ev_iload dX7_teach_141 7 rfl ?_
        refine ev_iadd dX7_teach_143 ?_
        refine ev_top (fun y28 ey28 => ?_)
        have h29 := h27 y28 ey28
        refine ev_istore_n (lv' := [(0, .ref 10), (1, .int x1), (2, .int z21), (3, .int y28), (4, .ref r4), (5, .int x5), (6, .int (x5 / 7)), (7, .int (x5 - x5 / 7 * 7)), (8, .int z21)]) dX7_teach_144 (by decide) [1, 2, 3, 0, 4, 5, 6, 7, 8] rfl ?_
        refine ev_iinc (v := (x5 + 1)) (lv' := [(0, .ref 10), (1, .int x1), (2, .int z21), (3, .int y28), (4, .ref r4), (5, .int (x5 + 1)), (6, .int (x5 / 7)), (7, .int (x5 - x5 / 7 * 7)), (8, .int z21)]) dX7_teach_145 5 rfl rfl (by decide) [1, 2, 3, 4, 5, 0, 6, 7, 8] rfl ?_
        refine ev_goto (tgt := 49) dX7_teach_148 rfl ?_
        refine EvW.less [0, 1, 2, 3, 4, 5] (lv' := [(0, .ref 10), (1, .int x1), (2, .int z21), (3, .int y28), (4, .ref r4), (5, .int (x5 + 1))]) rfl ?_
        exact h29
theorem lp_X7_teach {G : GW} {α μ0 : Mem} (hf : WF α) (hn : aN α < 7) {x1 : Int32} : ∀ j w (μ : Mem), w + j = 49 → VX α μ → keepM μ0 μ → Ev2 G mX7_teach 8 49 [(0, .ref 10), (1, .int x1), (2, .int (tchA α w).1), (3, .int (tchA α w).2), (4, .ref (43 + aN α)), (5, .int (nI w))] [] μ (fun v μ' => v = some (.int (sel2 x1 (tchA α 49).2 (tchA α 49).1)) ∧ VX α μ' ∧ keepM μ0 μ') := by
  have ho : isHo (43 + aN α) := ⟨by omega, by omega⟩
  intro j
  induction j with
  | zero =>
    intro w μ hw h hm
    obtain rfl : w = 49 := by omega
    refine sg_X7_teach_49 ho ⟨fun _ => ⟨fun c => ⟨?_, h, hm⟩, fun c => ⟨?_, h, hm⟩⟩, fun c => absurd (nI_le (a := 49) (Nat.le_refl _) (by omega)) c⟩
    · unfold sel2; rw [if_neg c]
    · unfold sel2; rw [if_pos c]
  | succ j ih =>
    intro w μ hw h hm
    have ed : nI w / 7 = nI (w / 7) := pk_div (a := w) (d := 7) (by omega) (by omega) (by omega)
    have er : nI w - nI w / 7 * 7 = nI (w % 7) := irem7 (by omega)
    refine sg_X7_teach_49 ho ⟨fun c => absurd c (nI_ge (b := 49) (by omega) (by omega)), fun _ => ?_⟩
    rw [er, ed]
    refine ⟨fun c => ?_, fun c => ⟨vp_nI (by omega) (by omega), vp_nI (by omega) (by omega), ?_⟩⟩
    · have hh := ih (w + 1) μ (by omega) h hm
      rw [tchA_succ, if_pos ((nI_eq (by omega) (by omega)).mp c), ← nI_1] at hh
      exact hh
    · have hd : w / 7 ≠ w % 7 := fun q => c (by rw [q])
      have ew : μ (12 + (nI (w / 7)).toNatClampNeg) (nI (w % 7)).toNatClampNeg = α 1 w := by
        rw [ix_nI (by omega), ix_nI (by omega), h.1.2.1 _ _ (by omega) (by omega), show 7 * (w / 7) + w % 7 = w by omega]
      rw [ew]
      have hwf := wf_taught hf hn (by omega) hd
      obtain ⟨f1, f2⟩ := foal hf h hn hwf
      refine ⟨f1, fun ν hν => ?_⟩
      obtain ⟨a1, a2, a3, a4⟩ := f2 ν hν
      obtain ⟨b1, b2, b3⟩ := foal_all hf a1 a2 a3
      have cN : ν 10 9 = α 0 0 := a1.1.1.1
      rw [VX.all a1.1, cN]
      have gN : aN (taughtA α w) = aN α + 1 := (newA_n hf.1).2
      have hs : setOK (aN (taughtA α w)) (allA α ||| (1 <<< (α 0 0 &&& 31))) := by
        rw [gN]
        exact all_more hf.1 hn
      refine ⟨⟨a1.ridOK hf, go_of hwf b1 b2 b3 hs⟩, fun z ξ hz => ?_⟩
      obtain ⟨ez, hq⟩ := hz
      have er2 : riddenX ν (allA α ||| (1 <<< (α 0 0 &&& 31))) = ridA (taughtA α w) (allA α ||| (1 <<< (α 0 0 &&& 31))) := rid_of b1 b2 b3 (a1.1.2.2.1.eq (newA_0 (by omega)) (newA_row (by omega) (by omega)) (newA_row (by omega) (by omega)) rfl rfl) (a1.1.1.2.1.trans (newA_0 (by omega)).symm) hs
      obtain ⟨h2, k2⟩ := a1.Q' hf hq
      have hh := ih (w + 1) ξ (by omega) h2 ((hm.tr a4).tr k2)
      rw [tchA_succ, if_neg hd, ← er2, ← ez, ← nI_1] at hh
      unfold stepT at hh
      refine ⟨fun d => ?_, fun d y hy => ?_⟩
      · rw [if_pos d] at hh
        exact hh
      · rw [if_neg d] at hh
        rw [hy]
        exact hh
theorem pb_X7_teach {G : GW} {α μ : Mem} (hf : WF α) (h : VX α μ) (x1 : Int32) : pubX G mX7_teach 8 [(0, .ref 10), (1, .int x1)] α μ (.int (sp_teach α x1)) α := by
  have hk := keepM.rf μ
  have cN : μ 10 9 = α 0 0 := h.1.1.1
  refine sg_X7_teach_0 ?_
  rw [cN]
  unfold sp_teach
  refine ⟨fun c => ⟨fun d => ?_, fun d => ?_⟩, fun c => ?_⟩
  · rw [if_pos c, if_pos d]
    have hn := aN_lt hf.1 d
    have ea : ((1 : Int32) <<< (α 0 0 &&& 31)) - 1 = allA α := rfl
    rw [ea]
    refine ⟨ready_of hf h (allA_ok hf.1), fun z ν hz => ?_⟩
    obtain ⟨ez, hq⟩ := hz
    obtain ⟨h1, k1⟩ := h.Q' hf hq
    have c1 : ν 10 9 = α 0 0 := h1.1.1.1
    have eN : (α 0 0).toNatClampNeg = aN α := rfl
    rw [c1, eN]
    refine ⟨by rw [hf.1.1.1]; exact vp_nI hn (by omega), ?_⟩
    have hh := lp_X7_teach (G := G) (μ0 := μ) hf hn (x1 := x1) 49 0 ν rfl h1 k1
    rw [tchA_01, tchA_02, ← h.rid (allA_ok hf.1), ← ez] at hh
    exact hh
  · rw [if_pos c, if_neg d]
    exact ⟨rfl, h, hk⟩
  · rw [if_neg (by rw [c]; decide)]
    exact ⟨rfl, h, hk⟩
/-! move -/
def fromA (α : Mem) (i : Nat) (p : Int32) : Mem := mset α 5 i p
def mvA (α : Mem) (i : Nat) : Nat → Int32 × Int32
  | 0 => (1000000000, -1)
  | p + 1 => if nI p = α 6 i then mvA α i p else stepT (mvA α i p) (ridA (fromA α i (nI p)) (allA α)) (nI p)
theorem mvA_succ (α : Mem) (i p : Nat) : mvA α i (p + 1) = if nI p = α 6 i then mvA α i p else stepT (mvA α i p) (ridA (fromA α i (nI p)) (allA α)) (nI p) := by rw [mvA]
theorem mvA_01 (α : Mem) (i : Nat) : (mvA α i 0).1 = 1000000000 := by rw [mvA]
theorem mvA_02 (α : Mem) (i : Nat) : (mvA α i 0).2 = -1 := by rw [mvA]
def sp_move (α : Mem) (x what : Int32) : Int32 := if inB x 0 (α 0 0 - 1) = true then (if inB what 0 1 = true then sel2 what (mvA α x.toNatClampNeg 7).2 (mvA α x.toNatClampNeg 7).1 else -7) else -5
theorem from_from (α : Mem) (i : Nat) (p q : Int32) : fromA (fromA α i p) i q = fromA α i q := by
  funext r k
  unfold fromA mset
  by_cases c : r = 5 ∧ k = i
  · rw [if_pos c, if_pos c]
  · rw [if_neg c, if_neg c, if_neg c]
theorem from_self (α : Mem) (i : Nat) : fromA α i (α 5 i) = α := by
  funext r k
  unfold fromA mset
  by_cases c : r = 5 ∧ k = i
  · rw [if_pos c, c.1, c.2]
  · rw [if_neg c]
theorem wf_from {α : Mem} (hf : WF α) {i p : Nat} (hp : p < 7) (hd : ¬ nI p = α 6 i) : WF (fromA α i (nI p)) := by
  obtain ⟨wc, ww, wr, wh, wt, wx, wi, ws⟩ := hf
  have e : ∀ r', r' ≠ 5 → fromA α i (nI p) r' = α r' := fun r' h => mset_ne h
  refine ⟨wc.eq (fun k _ => by rw [e 0 (by omega)]), ww.eq (e 1 (by omega)), wr.eq (by rw [e 0 (by omega)]) (e 2 (by omega)) (e 3 (by omega)), fun j hj => ?_, wt.eq (by rw [e 0 (by omega)]) (e 10 (by omega)), wx.eq (by rw [e 0 (by omega)]) (e 17 (by omega)) (e 18 (by omega)), wi.eq (by unfold aN; rw [e 0 (by omega)]; exact Nat.le_refl _) (by unfold aR; rw [e 0 (by omega)]; exact Nat.le_refl _) (by unfold aX; rw [e 0 (by omega)]; exact Nat.le_refl _) (e 11 (by omega)) (e 12 (by omega)) (e 13 (by omega)), ws.eq (e 14 (by omega)) (e 15 (by omega))⟩
  have hj' : j < aN α := by unfold aN at hj; rw [e 0 (by omega)] at hj; exact hj
  obtain ⟨h1, h2, h3, h4, h5, h6, h7⟩ := wh j hj'
  unfold wfH1
  rw [e 4 (by omega), e 6 (by omega), e 7 (by omega), e 8 (by omega), e 9 (by omega)]
  by_cases c : j = i
  · subst c
    have e5 : fromA α j (nI p) 5 j = nI p := mset_same
    rw [e5]
    exact ⟨h1, ⟨p, hp, rfl⟩, h3, hd, h5, h6, h7⟩
  · have e5 : fromA α i (nI p) 5 j = α 5 j := mset_other (by omega)
    rw [e5]
    exact ⟨h1, h2, h3, h4, h5, h6, h7⟩
theorem vx_from {α μ : Mem} {i : Nat} {q p : Int32} (hf : WF (fromA α i q)) (h : VX (fromA α i q) μ) (hi : i < aN α) (hf' : WF (fromA α i p)) : hearOK (mset μ (43 + i) 1 p) (43 + i) ∧ ∀ ν, hearR (mset μ (43 + i) 1 p) (43 + i) ν → VX (fromA α i p) ν ∧ keepM μ ν := by
  have e0 : fromA α i q 0 = α 0 := mset_ne (by omega)
  have hi' : i < aN (fromA α i q) := by unfold aN; rw [e0]; exact hi
  have ef : fromA α i p = fromA (fromA α i q) i p := (from_from α i q p).symm
  refine one_heard (β := fromA α i p) hf h hi' hf' (fun r hr => ?_) (fun r j hj => ?_) (fun a ha => mset_ne ha) ?_
  · rw [ef]; exact mset_ne (by omega)
  · rw [ef]; exact mset_other (by omega)
  · intro f hf6
    by_cases c : f = 1
    · subst c
      rw [mset_same]
      exact mset_same.symm
    · have e5 : fromA α i p (4 + f) i = fromA α i q (4 + f) i := by
        rw [ef]
        exact mset_other (by omega)
      rw [mset_other (by omega), e5]
      exact h.1.2.2.2.1 _ hi' f hf6
theorem sg_X7_move_0 {G : GW} {K : Option Value → Mem → Prop} {μ : Mem} {x1 x2 : Int32}  (h : (((inB x1 0 (μ 10 9 - 1)) = true) → (((inB x2 (0 : Int32) (1 : Int32)) = true) → (vp_in x1 7) ∧ ∀ y9 : Int32, y9 = (μ (43 + x1.toNatClampNeg) 1) → Ev2 G mX7_move 8 46 [(0, .ref 10), (2, .int x2), (3, .ref (43 + x1.toNatClampNeg)), (4, .int y9), (5, .int 1000000000), (6, .int (-1)), (7, .int 0)] [] μ K) ∧ (((inB x2 (0 : Int32) (1 : Int32)) = false) → K (some (.int (-7))) μ)) ∧ (((inB x1 0 (μ 10 9 - 1)) = false) → K (some (.int (-5))) μ)) : Ev2 G mX7_move 8 0 [(0, .ref 10), (1, .int x1), (2, .int x2)] [] μ K := by
  refine ev_aload_n dX7_move_0 0 rfl (by decide) ?_
  refine ev_iload_n dX7_move_1 1 rfl ?_
  refine e2_callV (w := .int (bi (inB x1 0 (μ 10 9 - 1)))) (μ1 := μ) (a := 10) (as := [.int x1]) (st := []) ok_X7_isHorse vi_X7_isHorse ml_7_128 hcl_7 kd_10 dX7_move_2 rfl rfl (Nat.le_of_ble_eq_true rfl) (Nat.le_of_ble_eq_true rfl) (by decide) (ct_X7_isHorse (x1) μ) ?_
  refine ev_ifne_bi (tgt := 11) dX7_move_5 rfl (fun c1 => ?_) (fun c1 => ?_)
  · have h2 := h.1 c1
    refine ev_iload_n dX7_move_11 2 rfl ?_
    refine ev_iconst (v := 0) dX7_move_12 rfl ?_
    refine ev_iconst (v := 1) dX7_move_13 rfl ?_
    refine e2_callS (w := .int (bi (inB x2 (0 : Int32) (1 : Int32)))) (μ1 := μ) (as := [.int x2, .int 0, .int 1]) (st := []) ok_X7_isWithin sv_X7_isWithin ml_7_86 dX7_move_14 rfl rfl (Nat.le_of_ble_eq_true rfl) (Nat.le_of_ble_eq_true rfl) (by decide) (ct_X7_isWithin (x2) (0) (1) μ) ?_
    refine ev_ifne_bi (tgt := 23) dX7_move_17 rfl (fun c4 => ?_) (fun c4 => ?_)
    · have h5 := h2.1 c4
      refine ev_aload_n dX7_move_23 0 rfl (by decide) ?_
      refine ev_getR' fl_7_16 rfl kd_10 rf_10_1 dX7_move_24 ?_
      refine ev_iload_n dX7_move_27 1 rfl ?_
      have p7 := h5.1
      have h8 := h5.2
      refine ev_aaload' (k := 5) kd_19 (by omega) ln_19 p7 (raH p7) dX7_move_28 ?_
      refine ev_astore_n (lv' := [(0, .ref 10), (1, .int x1), (2, .int x2), (3, .ref (43 + x1.toNatClampNeg))]) dX7_move_29 (nzHo (isH p7)) (by decide) [1, 2, 3, 0] rfl ?_
      refine ev_aload_n dX7_move_30 3 rfl (nzHo (isH p7)) ?_
      refine ev_getI' (v := (μ (43 + x1.toNatClampNeg) 1)) fl_7_154 rfl (kdHo (isH p7)) rfl dX7_move_31 ?_
      refine ev_top (fun y9 ey9 => ?_)
      have h10 := h8 y9 ey9
      refine ev_istore (lv' := [(0, .ref 10), (1, .int x1), (2, .int x2), (3, .ref (43 + x1.toNatClampNeg)), (4, .int y9)]) dX7_move_34 (by decide) [1, 2, 3, 4, 0] rfl ?_
      refine ev_ldc dX7_move_36 co_7_201 ?_
      refine ev_istore (lv' := [(0, .ref 10), (1, .int x1), (2, .int x2), (3, .ref (43 + x1.toNatClampNeg)), (4, .int y9), (5, .int 1000000000)]) dX7_move_38 (by decide) [1, 2, 3, 4, 5, 0] rfl ?_
      refine ev_iconst (v := (-1)) dX7_move_40 rfl ?_
      refine ev_istore (lv' := [(0, .ref 10), (1, .int x1), (2, .int x2), (3, .ref (43 + x1.toNatClampNeg)), (4, .int y9), (5, .int 1000000000), (6, .int (-1))]) dX7_move_41 (by decide) [1, 2, 3, 4, 5, 6, 0] rfl ?_
      refine ev_iconst (v := 0) dX7_move_43 rfl ?_
      refine ev_istore (lv' := [(0, .ref 10), (1, .int x1), (2, .int x2), (3, .ref (43 + x1.toNatClampNeg)), (4, .int y9), (5, .int 1000000000), (6, .int (-1)), (7, .int 0)]) dX7_move_44 (by decide) [1, 2, 3, 4, 5, 6, 7, 0] rfl ?_
      refine EvW.less [0, 2, 3, 4, 5, 6, 7] (lv' := [(0, .ref 10), (2, .int x2), (3, .ref (43 + x1.toNatClampNeg)), (4, .int y9), (5, .int 1000000000), (6, .int (-1)), (7, .int 0)]) rfl ?_
      exact h10
    · have h6 := h2.2 c4
      refine ev_bipush (v := (-7)) dX7_move_20 rfl ?_
      exact ev_ireturn dX7_move_22 rfl True.intro rfl rfl ⟨rfl, h6⟩
  · have h3 := h.2 c1
    refine ev_bipush (v := (-5)) dX7_move_8 rfl ?_
    exact ev_ireturn dX7_move_10 rfl True.intro rfl rfl ⟨rfl, h3⟩
theorem sg_X7_move_46 {G : GW} {K : Option Value → Mem → Prop} {μ : Mem} {x2 x4 x5 x6 x7 : Int32} {r3 : Nat} (hr3 : isHo r3) (h : ((7 ≤ x7) → (hearOK (mset μ r3 1 x4) r3) ∧ ∀ μ6 : Mem, (hearR (mset μ r3 1 x4) r3 μ6) → ((¬ x2 = 0) → K (some (.int x5)) μ6) ∧ ((x2 = 0) → K (some (.int x6)) μ6)) ∧ ((¬ (7 ≤ x7)) → ((x7 = (μ r3 2)) → Ev2 G mX7_move 8 46 [(0, .ref 10), (2, .int x2), (3, .ref r3), (4, .int x4), (5, .int x5), (6, .int x6), (7, .int (x7 + 1))] [] μ K) ∧ ((¬ (x7 = (μ r3 2))) → (hearOK (mset μ r3 1 x7) r3) ∧ ∀ μ17 : Mem, (hearR (mset μ r3 1 x7) r3 μ17) → (ridOK μ17 ∧ goOK (goX μ17) ((((1 : Int32) <<< (μ17 10 9 &&& 31)) - 1))) ∧ ∀ (z22 : Int32) (μ23 : Mem), (z22 = riddenX μ17 ((((1 : Int32) <<< (μ17 10 9 &&& 31)) - 1)) ∧ sameQ μ17 μ23) → ((x5 ≤ z22) → Ev2 G mX7_move 8 46 [(0, .ref 10), (2, .int x2), (3, .ref r3), (4, .int x4), (5, .int x5), (6, .int x6), (7, .int (x7 + 1))] [] μ23 K) ∧ ((¬ (x5 ≤ z22)) → Ev2 G mX7_move 8 46 [(0, .ref 10), (2, .int x2), (3, .ref r3), (4, .int x4), (5, .int z22), (6, .int x7), (7, .int (x7 + 1))] [] μ23 K)))) : Ev2 G mX7_move 8 46 [(0, .ref 10), (2, .int x2), (3, .ref r3), (4, .int x4), (5, .int x5), (6, .int x6), (7, .int x7)] [] μ K := by
  refine ev_iload dX7_move_46 6 rfl ?_
  refine ev_bipush (v := 7) dX7_move_48 rfl ?_
  refine ev_icmp_ge (tgt := 100) dX7_move_50 rfl (fun c1 => ?_) (fun c1 => ?_)
  · have h2 := h.1 c1
    refine ev_aload_n dX7_move_100 0 rfl (by decide) ?_
    refine ev_aload_n dX7_move_101 2 rfl (nzHo hr3) ?_
    refine ev_iload dX7_move_102 3 rfl ?_
    have p4 := h2.1
    have h5 := h2.2
    refine e2_callVrv (Rl := fun μ6 => hearR (mset μ r3 1 x4) r3 μ6) (a := 10) (as := [.ref r3, .int x4]) (st := []) ok_X7_setFrom vi_X7_setFrom ml_7_209 hcl_7 kd_10 dX7_move_104 rfl rfl (Nat.le_of_ble_eq_true rfl) (Nat.le_of_ble_eq_true rfl) (by decide) (ct_X7_setFrom r3 hr3 (x4) μ p4) (fun μ6 r7 => ?_)
    have h8 := h5 μ6 r7
    refine ev_iload_n dX7_move_107 1 rfl ?_
    refine ev_if_ne (tgt := 116) dX7_move_108 rfl (fun c9 => ?_) (fun c9 => ?_)
    · have h10 := h8.1 c9
      refine ev_iload dX7_move_116 4 rfl ?_
      exact ev_ireturn dX7_move_118 rfl True.intro rfl rfl ⟨rfl, h10⟩
    · have h11 := h8.2 c9
      refine ev_iload dX7_move_111 5 rfl ?_
      refine ev_goto (tgt := 118) dX7_move_113 rfl ?_
      exact ev_ireturn dX7_move_118 rfl True.intro rfl rfl ⟨rfl, h11⟩
  · have h3 := h.2 c1
    refine ev_iload dX7_move_53 6 rfl ?_
    refine ev_aload_n dX7_move_55 2 rfl (nzHo hr3) ?_
    refine ev_getI' (v := (μ r3 2)) fl_7_157 rfl (kdHo hr3) rfl dX7_move_56 ?_
    refine ev_icmp_eq (tgt := 94) dX7_move_59 rfl (fun c12 => ?_) (fun c12 => ?_)
    · have h13 := h3.1 c12
      refine ev_iinc (v := (x7 + 1)) (lv' := [(0, .ref 10), (2, .int x2), (3, .ref r3), (4, .int x4), (5, .int x5), (6, .int x6), (7, .int (x7 + 1))]) dX7_move_94 6 rfl rfl (by decide) [1, 2, 3, 4, 5, 6, 0] rfl ?_
      refine ev_goto (tgt := 46) dX7_move_97 rfl ?_
      exact h13
    · have h14 := h3.2 c12
      refine ev_aload_n dX7_move_62 0 rfl (by decide) ?_
      refine ev_aload_n dX7_move_63 2 rfl (nzHo hr3) ?_
      refine ev_iload dX7_move_64 6 rfl ?_
      have p15 := h14.1
      have h16 := h14.2
      refine e2_callVrv (Rl := fun μ17 => hearR (mset μ r3 1 x7) r3 μ17) (a := 10) (as := [.ref r3, .int x7]) (st := []) ok_X7_setFrom vi_X7_setFrom ml_7_209 hcl_7 kd_10 dX7_move_66 rfl rfl (Nat.le_of_ble_eq_true rfl) (Nat.le_of_ble_eq_true rfl) (by decide) (ct_X7_setFrom r3 hr3 (x7) μ p15) (fun μ17 r18 => ?_)
      have h19 := h16 μ17 r18
      refine ev_aload_n dX7_move_69 0 rfl (by decide) ?_
      refine ev_aload_n dX7_move_70 0 rfl (by decide) ?_
      refine e2_callV (w := .int ((((1 : Int32) <<< (μ17 10 9 &&& 31)) - 1))) (μ1 := μ17) (a := 10) (as := []) (st := [.ref 10]) ok_X7_allHorses vi_X7_allHorses ml_7_176 hcl_7 kd_10 dX7_move_71 rfl rfl (Nat.le_of_ble_eq_true rfl) (Nat.le_of_ble_eq_true rfl) (by decide) (ct_X7_allHorses μ17) ?_
      have p20 := h19.1
      have h21 := h19.2
      refine e2_callVr (Rl := fun z22 μ23 => z22 = riddenX μ17 ((((1 : Int32) <<< (μ17 10 9 &&& 31)) - 1)) ∧ sameQ μ17 μ23) (a := 10) (as := [.int ((((1 : Int32) <<< (μ17 10 9 &&& 31)) - 1))]) (st := []) ok_X7_ridden vi_X7_ridden ml_7_206 hcl_7 kd_10 dX7_move_74 rfl rfl (Nat.le_of_ble_eq_true rfl) (Nat.le_of_ble_eq_true rfl) (by decide) (ct_X7_ridden (((((1 : Int32) <<< (μ17 10 9 &&& 31)) - 1))) μ17 p20) (fun z22 μ23 r24 => ?_)
      have h25 := h21 z22 μ23 r24
      refine ev_istore (lv' := [(0, .ref 10), (2, .int x2), (3, .ref r3), (4, .int x4), (5, .int x5), (6, .int x6), (7, .int x7), (8, .int z22)]) dX7_move_77 (by decide) [1, 2, 3, 4, 5, 6, 7, 0] rfl ?_
      refine ev_iload dX7_move_79 7 rfl ?_
      refine ev_iload dX7_move_81 4 rfl ?_
      refine ev_icmp_ge (tgt := 94) dX7_move_83 rfl (fun c26 => ?_) (fun c26 => ?_)
      · have h27 := h25.1 c26
        refine ev_iinc (v := (x7 + 1)) (lv' := [(0, .ref 10), (2, .int x2), (3, .ref r3), (4, .int x4), (5, .int x5), (6, .int x6), (7, .int (x7 + 1)), (8, .int z22)]) dX7_move_94 6 rfl rfl (by decide) [1, 2, 3, 4, 5, 6, 0, 7] rfl ?_
        refine ev_goto (tgt := 46) dX7_move_97 rfl ?_
        refine EvW.less [0, 1, 2, 3, 4, 5, 6] (lv' := [(0, .ref 10), (2, .int x2), (3, .ref r3), (4, .int x4), (5, .int x5), (6, .int x6), (7, .int (x7 + 1))]) rfl ?_
        exact h27
      · have h28 := h25.2 c26
        refine ev_iload dX7_move_86 7 rfl ?_
        refine ev_istore (lv' := [(0, .ref 10), (2, .int x2), (3, .ref r3), (4, .int x4), (5, .int z22), (6, .int x6), (7, .int x7), (8, .int z22)]) dX7_move_88 (by decide) [1, 2, 3, 4, 0, 5, 6, 7] rfl ?_
        refine ev_iload dX7_move_90 6 rfl ?_
        refine ev_istore (lv' := [(0, .ref 10), (2, .int x2), (3, .ref r3), (4, .int x4), (5, .int z22), (6, .int x7), (7, .int x7), (8, .int z22)]) dX7_move_92 (by decide) [1, 2, 3, 4, 5, 0, 6, 7] rfl ?_
        refine ev_iinc (v := (x7 + 1)) (lv' := [(0, .ref 10), (2, .int x2), (3, .ref r3), (4, .int x4), (5, .int z22), (6, .int x7), (7, .int (x7 + 1)), (8, .int z22)]) dX7_move_94 6 rfl rfl (by decide) [1, 2, 3, 4, 5, 6, 0, 7] rfl ?_
        refine ev_goto (tgt := 46) dX7_move_97 rfl ?_
        refine EvW.less [0, 1, 2, 3, 4, 5, 6] (lv' := [(0, .ref 10), (2, .int x2), (3, .ref r3), (4, .int x4), (5, .int z22), (6, .int x7), (7, .int (x7 + 1))]) rfl ?_
        exact h28
theorem lp_X7_move {G : GW} {α μ0 : Mem} (hf : WF α) {i : Nat} (hi : i < aN α) {x2 : Int32} : ∀ j p q (μ : Mem), p + j = 7 → WF (fromA α i q) → VX (fromA α i q) μ → keepM μ0 μ → Ev2 G mX7_move 8 46 [(0, .ref 10), (2, .int x2), (3, .ref (43 + i)), (4, .int (α 5 i)), (5, .int (mvA α i p).1), (6, .int (mvA α i p).2), (7, .int (nI p))] [] μ (fun v μ' => v = some (.int (sel2 x2 (mvA α i 7).2 (mvA α i 7).1)) ∧ VX α μ' ∧ keepM μ0 μ') := by
  have hi7 : i < 7 := Nat.lt_of_lt_of_le hi hf.1.1.2
  have ho : isHo (43 + i) := ⟨by omega, by omega⟩
  intro j
  induction j with
  | zero =>
    intro p q μ hp hq h hm
    obtain rfl : p = 7 := by omega
    have hs : WF (fromA α i (α 5 i)) := by rw [from_self]; exact hf
    obtain ⟨f1, f2⟩ := vx_from hq h hi hs
    refine sg_X7_move_46 ho ⟨fun _ => ⟨f1, fun ν hν => ?_⟩, fun c => absurd (nI_le (a := 7) (Nat.le_refl _) (by omega)) c⟩
    obtain ⟨g1, g2⟩ := f2 ν hν
    rw [from_self] at g1
    refine ⟨fun c => ⟨?_, g1, hm.tr g2⟩, fun c => ⟨?_, g1, hm.tr g2⟩⟩
    · unfold sel2; rw [if_neg c]
    · unfold sel2; rw [if_pos c]
  | succ j ih =>
    intro p q μ hp hq h hm
    have e0 : fromA α i q 0 = α 0 := mset_ne (by omega)
    have e6 : fromA α i q 6 = α 6 := mset_ne (by omega)
    have f2 : μ (43 + i) 2 = α 6 i := by
      have := h.1.2.2.2.1 i (by unfold aN; rw [e0]; exact hi) 2 (by omega)
      rw [this]
      exact congrFun e6 i
    refine sg_X7_move_46 ho ⟨fun c => absurd c (nI_ge (b := 7) (by omega) (by omega)), fun _ => ?_⟩
    rw [f2]
    refine ⟨fun c => ?_, fun c => ?_⟩
    · have hh := ih (p + 1) q μ (by omega) hq h hm
      rw [mvA_succ, if_pos c, ← nI_1] at hh
      exact hh
    · have hw := wf_from hf (i := i) (p := p) (by omega) c
      obtain ⟨f1, f2⟩ := vx_from hq h hi hw
      refine ⟨f1, fun ν hν => ?_⟩
      obtain ⟨g1, g2⟩ := f2 ν hν
      have ea : allA (fromA α i (nI p)) = allA α := by unfold allA; rw [show fromA α i (nI p) 0 = α 0 from mset_ne (by omega)]
      have hs := allA_ok hw.1
      rw [ea] at hs
      rw [VX.all g1.1, ea]
      refine ⟨ready_of hw g1 hs, fun z ξ hz => ?_⟩
      obtain ⟨ez, hqq⟩ := hz
      rw [g1.rid hs] at ez
      obtain ⟨h2, k2⟩ := g1.Q' hw hqq
      have hh := ih (p + 1) (nI p) ξ (by omega) hw h2 ((hm.tr g2).tr k2)
      rw [mvA_succ, if_neg c, ← ez, ← nI_1] at hh
      unfold stepT at hh
      refine ⟨fun d => ?_, fun d => ?_⟩
      · rw [if_pos d] at hh
        exact hh
      · rw [if_neg d] at hh
        exact hh
theorem pb_X7_move {G : GW} {α μ : Mem} (hf : WF α) (h : VX α μ) (x1 x2 : Int32) : pubX G mX7_move 8 [(0, .ref 10), (1, .int x1), (2, .int x2)] α μ (.int (sp_move α x1 x2)) α := by
  have hk := keepM.rf μ
  have cN : μ 10 9 = α 0 0 := h.1.1.1
  refine sg_X7_move_0 ?_
  rw [cN]
  unfold sp_move
  refine ⟨fun c => ⟨fun d => ?_, fun d => ?_⟩, fun c => ?_⟩
  · rw [if_pos c, if_pos d]
    obtain ⟨v, vi, -⟩ := VX.vH hf h.1 c
    refine ⟨v, fun y hy => ?_⟩
    have ey : y = α 5 x1.toNatClampNeg := hy.trans (h.1.2.2.2.1 _ vi 1 (by omega))
    have hh := lp_X7_move (G := G) (μ0 := μ) hf vi (x2 := x2) 7 0 (α 5 x1.toNatClampNeg) μ rfl (by rw [from_self]; exact hf) (by rw [from_self]; exact h) hk
    rw [mvA_01, mvA_02] at hh
    rw [ey]
    exact hh
  · rw [if_pos c, if_neg (by rw [d]; decide)]
    exact ⟨rfl, h, hk⟩
  · rw [if_neg (by rw [c]; decide)]
    exact ⟨rfl, h, hk⟩
/-! cut -/
def sp_cut (α : Mem) (a b m : Int32) : Int32 := if wayB a b = true then (if inB m 1 999 = true then ridA α (allA α) - ridA (walkA α a.toNatClampNeg b.toNatClampNeg m) (allA α) else -1000000) else -1000000
theorem walk_back {α : Mem} (hf : WF α) {a b : Nat} (ha : a < 7) (hb : b < 7) (hab : a ≠ b) (v : Int32) : walkA (walkA α a b v) a b (α 1 (7 * a + b)) = α := by
  obtain ⟨u, -, -, h3, h4⟩ := hf.2.1 a b ha hb hab
  funext r k
  unfold walkA mset
  by_cases c1 : r = 1 ∧ k = 7 * b + a
  · rw [if_pos c1, c1.1, c1.2, h3, h4]
  · rw [if_neg c1]
    by_cases c2 : r = 1 ∧ k = 7 * a + b
    · rw [if_pos c2, c2.1, c2.2]
    · rw [if_neg c2, if_neg c1, if_neg c2]
theorem sg_X7_cut_0 {G : GW} {K : Option Value → Mem → Prop} {μ : Mem} {x1 x2 x3 : Int32}  (h : (((wayB x1 x2) = false) → K (some (.int (-1000000))) μ) ∧ (((wayB x1 x2) = true) → (((inB x3 (1 : Int32) (999 : Int32)) = true) → (ridOK μ ∧ goOK (goX μ) ((((1 : Int32) <<< (μ 10 9 &&& 31)) - 1))) ∧ ∀ (z9 : Int32) (μ10 : Mem), (z9 = riddenX μ ((((1 : Int32) <<< (μ 10 9 &&& 31)) - 1)) ∧ sameQ μ μ10) → (vp_in x1 7) ∧ (vp_in x2 7) ∧ ∀ y17 : Int32, y17 = (μ10 (12 + x1.toNatClampNeg) x2.toNatClampNeg) → (vp_in x1 7 ∧ vp_in x2 7 ∧ hearAllOK (walkM μ10 x1.toNatClampNeg x2.toNatClampNeg x3)) ∧ ∀ μ21 : Mem, (hearAllR (walkM μ10 x1.toNatClampNeg x2.toNatClampNeg x3) μ21) → (ridOK μ21 ∧ goOK (goX μ21) ((((1 : Int32) <<< (μ21 10 9 &&& 31)) - 1))) ∧ ∀ (z26 : Int32) (μ27 : Mem), (z26 = riddenX μ21 ((((1 : Int32) <<< (μ21 10 9 &&& 31)) - 1)) ∧ sameQ μ21 μ27) → (vp_in x1 7 ∧ vp_in x2 7 ∧ hearAllOK (walkM μ27 x1.toNatClampNeg x2.toNatClampNeg y17)) ∧ ∀ μ32 : Mem, (hearAllR (walkM μ27 x1.toNatClampNeg x2.toNatClampNeg y17) μ32) → K (some (.int (z9 - z26))) μ32) ∧ (((inB x3 (1 : Int32) (999 : Int32)) = false) → K (some (.int (-1000000))) μ))) : Ev2 G mX7_cut 8 0 [(0, .ref 10), (1, .int x1), (2, .int x2), (3, .int x3)] [] μ K := by
  refine ev_iload_n dX7_cut_0 1 rfl ?_
  refine ev_iload_n dX7_cut_1 2 rfl ?_
  refine e2_callS (w := .int (bi (wayB x1 x2))) (μ1 := μ) (as := [.int x1, .int x2]) (st := []) ok_X7_isWay sv_X7_isWay ml_7_82 dX7_cut_2 rfl rfl (Nat.le_of_ble_eq_true rfl) (Nat.le_of_ble_eq_true rfl) (by decide) (ct_X7_isWay (x1) (x2) μ) ?_
  refine ev_ifeq_bi (tgt := 19) dX7_cut_5 rfl (fun c1 => ?_) (fun c1 => ?_)
  · have h2 := h.1 c1
    refine ev_ldc dX7_cut_19 co_7_213 ?_
    exact ev_ireturn dX7_cut_21 rfl True.intro rfl rfl ⟨rfl, h2⟩
  · have h3 := h.2 c1
    refine ev_iload_n dX7_cut_8 3 rfl ?_
    refine ev_iconst (v := 1) dX7_cut_9 rfl ?_
    refine ev_sipush (v := 999) dX7_cut_10 rfl ?_
    refine e2_callS (w := .int (bi (inB x3 (1 : Int32) (999 : Int32)))) (μ1 := μ) (as := [.int x3, .int 1, .int 999]) (st := []) ok_X7_isWithin sv_X7_isWithin ml_7_86 dX7_cut_13 rfl rfl (Nat.le_of_ble_eq_true rfl) (Nat.le_of_ble_eq_true rfl) (by decide) (ct_X7_isWithin (x3) (1) (999) μ) ?_
    refine ev_ifne_bi (tgt := 22) dX7_cut_16 rfl (fun c4 => ?_) (fun c4 => ?_)
    · have h5 := h3.1 c4
      refine ev_aload_n dX7_cut_22 0 rfl (by decide) ?_
      refine ev_aload_n dX7_cut_23 0 rfl (by decide) ?_
      refine e2_callV (w := .int ((((1 : Int32) <<< (μ 10 9 &&& 31)) - 1))) (μ1 := μ) (a := 10) (as := []) (st := [.ref 10]) ok_X7_allHorses vi_X7_allHorses ml_7_176 hcl_7 kd_10 dX7_cut_24 rfl rfl (Nat.le_of_ble_eq_true rfl) (Nat.le_of_ble_eq_true rfl) (by decide) (ct_X7_allHorses μ) ?_
      have p7 := h5.1
      have h8 := h5.2
      refine e2_callVr (Rl := fun z9 μ10 => z9 = riddenX μ ((((1 : Int32) <<< (μ 10 9 &&& 31)) - 1)) ∧ sameQ μ μ10) (a := 10) (as := [.int ((((1 : Int32) <<< (μ 10 9 &&& 31)) - 1))]) (st := []) ok_X7_ridden vi_X7_ridden ml_7_206 hcl_7 kd_10 dX7_cut_27 rfl rfl (Nat.le_of_ble_eq_true rfl) (Nat.le_of_ble_eq_true rfl) (by decide) (ct_X7_ridden (((((1 : Int32) <<< (μ 10 9 &&& 31)) - 1))) μ p7) (fun z9 μ10 r11 => ?_)
      have h12 := h8 z9 μ10 r11
      refine ev_istore (lv' := [(0, .ref 10), (1, .int x1), (2, .int x2), (3, .int x3), (4, .int z9)]) dX7_cut_30 (by decide) [1, 2, 3, 4, 0] rfl ?_
      refine ev_aload_n dX7_cut_32 0 rfl (by decide) ?_
      refine ev_getR' fl_7_11 rfl kd_10 rf_10_0 dX7_cut_33 ?_
      refine ev_iload_n dX7_cut_36 1 rfl ?_
      have p13 := h12.1
      have h14 := h12.2
      refine ev_aaload' (k := 4) kd_11 (by omega) ln_11 p13 (raW p13) dX7_cut_37 ?_
      refine ev_iload_n dX7_cut_38 2 rfl ?_
      have p15 := h14.1
      have h16 := h14.2
      refine ev_iaload' (v := (μ10 (12 + x1.toNatClampNeg) x2.toNatClampNeg)) (kdRw (isW p13)) (lnRw (isW p13)) p15 rfl dX7_cut_39 ?_
      refine ev_top (fun y17 ey17 => ?_)
      have h18 := h16 y17 ey17
      refine ev_istore (lv' := [(0, .ref 10), (1, .int x1), (2, .int x2), (3, .int x3), (4, .int z9), (5, .int y17)]) dX7_cut_40 (by decide) [1, 2, 3, 4, 5, 0] rfl ?_
      refine ev_aload_n dX7_cut_42 0 rfl (by decide) ?_
      refine ev_iload_n dX7_cut_43 1 rfl ?_
      refine ev_iload_n dX7_cut_44 2 rfl ?_
      refine ev_iload_n dX7_cut_45 3 rfl ?_
      have p19 := h18.1
      have h20 := h18.2
      refine e2_callVrv (Rl := fun μ21 => hearAllR (walkM μ10 x1.toNatClampNeg x2.toNatClampNeg x3) μ21) (a := 10) (as := [.int x1, .int x2, .int x3]) (st := []) ok_X7_setWalk vi_X7_setWalk ml_7_90 hcl_7 kd_10 dX7_cut_46 rfl rfl (Nat.le_of_ble_eq_true rfl) (Nat.le_of_ble_eq_true rfl) (by decide) (ct_X7_setWalk (x1) (x2) (x3) μ10 p19) (fun μ21 r22 => ?_)
      have h23 := h20 μ21 r22
      refine ev_aload_n dX7_cut_49 0 rfl (by decide) ?_
      refine ev_aload_n dX7_cut_50 0 rfl (by decide) ?_
      refine e2_callV (w := .int ((((1 : Int32) <<< (μ21 10 9 &&& 31)) - 1))) (μ1 := μ21) (a := 10) (as := []) (st := [.ref 10]) ok_X7_allHorses vi_X7_allHorses ml_7_176 hcl_7 kd_10 dX7_cut_51 rfl rfl (Nat.le_of_ble_eq_true rfl) (Nat.le_of_ble_eq_true rfl) (by decide) (ct_X7_allHorses μ21) ?_
      have p24 := h23.1
      have h25 := h23.2
      refine e2_callVr (Rl := fun z26 μ27 => z26 = riddenX μ21 ((((1 : Int32) <<< (μ21 10 9 &&& 31)) - 1)) ∧ sameQ μ21 μ27) (a := 10) (as := [.int ((((1 : Int32) <<< (μ21 10 9 &&& 31)) - 1))]) (st := []) ok_X7_ridden vi_X7_ridden ml_7_206 hcl_7 kd_10 dX7_cut_54 rfl rfl (Nat.le_of_ble_eq_true rfl) (Nat.le_of_ble_eq_true rfl) (by decide) (ct_X7_ridden (((((1 : Int32) <<< (μ21 10 9 &&& 31)) - 1))) μ21 p24) (fun z26 μ27 r28 => ?_)
      have h29 := h25 z26 μ27 r28
      refine ev_istore (lv' := [(0, .ref 10), (1, .int x1), (2, .int x2), (3, .int x3), (4, .int z9), (5, .int y17), (6, .int z26)]) dX7_cut_57 (by decide) [1, 2, 3, 4, 5, 6, 0] rfl ?_
      refine ev_aload_n dX7_cut_59 0 rfl (by decide) ?_
      refine ev_iload_n dX7_cut_60 1 rfl ?_
      refine ev_iload_n dX7_cut_61 2 rfl ?_
      refine ev_iload dX7_cut_62 5 rfl ?_
      have p30 := h29.1
      have h31 := h29.2
      refine e2_callVrv (Rl := fun μ32 => hearAllR (walkM μ27 x1.toNatClampNeg x2.toNatClampNeg y17) μ32) (a := 10) (as := [.int x1, .int x2, .int y17]) (st := []) ok_X7_setWalk vi_X7_setWalk ml_7_90 hcl_7 kd_10 dX7_cut_64 rfl rfl (Nat.le_of_ble_eq_true rfl) (Nat.le_of_ble_eq_true rfl) (by decide) (ct_X7_setWalk (x1) (x2) (y17) μ27 p30) (fun μ32 r33 => ?_)
      have h34 := h31 μ32 r33
      refine ev_iload dX7_cut_67 4 rfl ?_
      refine ev_iload dX7_cut_69 6 rfl ?_
      refine ev_isub dX7_cut_71 ?_
      exact ev_ireturn dX7_cut_72 rfl True.intro rfl rfl ⟨rfl, h34⟩
    · have h6 := h3.2 c4
      refine ev_ldc dX7_cut_19 co_7_213 ?_
      exact ev_ireturn dX7_cut_21 rfl True.intro rfl rfl ⟨rfl, h6⟩
theorem pb_X7_cut {G : GW} {α μ : Mem} (hf : WF α) (h : VX α μ) (x1 x2 x3 : Int32) : pubX G mX7_cut 8 [(0, .ref 10), (1, .int x1), (2, .int x2), (3, .int x3)] α μ (.int (sp_cut α x1 x2 x3)) α := by
  have hk := keepM.rf μ
  refine sg_X7_cut_0 ?_
  unfold sp_cut
  refine ⟨fun c => ?_, fun c => ⟨fun d => ?_, fun d => ?_⟩⟩
  · rw [if_neg (by rw [c]; decide)]
    exact ⟨rfl, h, hk⟩
  · rw [if_pos c, if_pos d, VX.all h.1]
    obtain ⟨a, b, ha, hb, hab, rfl, rfl⟩ := wayB_t c
    obtain ⟨w, hw1, hw2, rfl⟩ := inB_mid (lo := 1) (hi := 999) (by omega) (by omega) d
    rw [ix_nI (i := a) (by omega), ix_nI (i := b) (by omega)]
    have va : vp_in (nI a) 7 := vp_nI ha (by omega)
    have vb : vp_in (nI b) 7 := vp_nI hb (by omega)
    have hs := allA_ok hf.1
    refine ⟨ready_of hf h hs, fun z ν hz => ⟨va, vb, fun y hy => ?_⟩⟩
    obtain ⟨ez, hq⟩ := hz
    rw [h.rid hs] at ez
    obtain ⟨h1, k1⟩ := h.Q' hf hq
    have ey : y = α 1 (7 * a + b) := hy.trans (h1.1.2.1 a b ha hb)
    have hf2 := wf_walkA hf ha hb (w := w) ⟨hw1, hw2⟩
    have hv2 := vx_walkA hf.1 h1.1 ha hb (nI w)
    refine ⟨⟨va, vb, hv2.hear hf2⟩, fun ξ hξ => ?_⟩
    have h3 := hv2.heard hf2 hξ
    have k3 : keepM μ ξ := k1.tr ((keep_walkM ν ha hb _).tr (keepM.of_hearS hξ.1))
    have ea : allA (walkA α a b (nI w)) = allA α := by unfold allA; rw [walkA_row (by omega)]
    have hs2 := allA_ok hf2.1
    rw [ea] at hs2
    rw [VX.all h3.1, ea]
    refine ⟨ready_of hf2 h3 hs2, fun z2 ξ2 hz2 => ?_⟩
    obtain ⟨ez2, hq2⟩ := hz2
    rw [h3.rid hs2] at ez2
    obtain ⟨h4, k4⟩ := h3.Q' hf2 hq2
    rw [ey]
    have hv5 := vx_walkA hf2.1 h4.1 ha hb (α 1 (7 * a + b))
    rw [walk_back hf ha hb hab] at hv5
    refine ⟨⟨va, vb, hv5.hear hf⟩, fun ξ3 hξ3 => ⟨by rw [ez, ez2], hv5.heard hf hξ3, ?_⟩⟩
    exact (k3.tr k4).tr ((keep_walkM _ ha hb _).tr (keepM.of_hearS hξ3.1))
  · rw [if_pos c, if_neg (by rw [d]; decide)]
    exact ⟨rfl, h, hk⟩
