/-! ===== the class's public methods: wet, whence, laws, mean, judge ===== -/
def stepW (set : Int32) (p : Nat) (s : Int32 × Int32) (way : Int32) (q : Nat) : Int32 × Int32 := if p = q then s else if way = set then (s.1 + 1, if s.2 = -1 then 10 * nI p + nI q else s.2) else s
def wetI (α : Mem) (set : Int32) (p : Nat) (s : Int32 × Int32) : Nat → Int32 × Int32
  | 0 => s
  | q + 1 => stepW set p (wetI α set p s q) (wayHs (runA α (allA α) (-1) p) 0 (backL (runA α (allA α) (-1) p) 7 q)) q
theorem wetI_0 (α : Mem) (set : Int32) (p : Nat) (s : Int32 × Int32) : wetI α set p s 0 = s := by rw [wetI]
theorem wetI_succ (α : Mem) (set : Int32) (p : Nat) (s : Int32 × Int32) (q : Nat) : wetI α set p s (q + 1) = stepW set p (wetI α set p s q) (wayHs (runA α (allA α) (-1) p) 0 (backL (runA α (allA α) (-1) p) 7 q)) q := by rw [wetI]
def wetA (α : Mem) (set : Int32) : Nat → Int32 × Int32
  | 0 => (0, -1)
  | p + 1 => wetI α set p (wetA α set p) 7
theorem wetA_0 (α : Mem) (set : Int32) : wetA α set 0 = (0, -1) := by rw [wetA]
theorem wetA_succ (α : Mem) (set : Int32) (p : Nat) : wetA α set (p + 1) = wetI α set p (wetA α set p) 7 := by rw [wetA]
def sp_wet (α : Mem) (set what : Int32) : Int32 := if inB set 0 (allA α) = true then (if inB what 0 1 = true then sel2 what (wetA α set 7).1 (wetA α set 7).2 else -2) else -2
theorem sg_X7_wet_0 {G : GW} {K : Option Value → Mem → Prop} {μ : Mem} {x1 x2 : Int32}  (h : (((inB x1 (0 : Int32) ((((1 : Int32) <<< (μ 10 9 &&& 31)) - 1))) = false) → K (some (.int (-2))) μ) ∧ (((inB x1 (0 : Int32) ((((1 : Int32) <<< (μ 10 9 &&& 31)) - 1))) = true) → (((inB x2 (0 : Int32) (1 : Int32)) = true) → Ev2 G mX7_wet 7 32 [(0, .ref 10), (1, .int x1), (2, .int x2), (3, .int 0), (4, .int (-1)), (5, .int 0)] [] μ K) ∧ (((inB x2 (0 : Int32) (1 : Int32)) = false) → K (some (.int (-2))) μ))) : Ev2 G mX7_wet 7 0 [(0, .ref 10), (1, .int x1), (2, .int x2)] [] μ K := by
  refine ev_iload_n dX7_wet_0 1 rfl ?_
  refine ev_iconst (v := 0) dX7_wet_1 rfl ?_
  refine ev_aload_n dX7_wet_2 0 rfl (by decide) ?_
  refine e2_callV (w := .int ((((1 : Int32) <<< (μ 10 9 &&& 31)) - 1))) (μ1 := μ) (a := 10) (as := []) (st := [.int 0, .int x1]) ok_X7_allHorses vi_X7_allHorses ml_7_176 hcl_7 kd_10 dX7_wet_3 rfl rfl (Nat.le_of_ble_eq_true rfl) (Nat.le_of_ble_eq_true rfl) (by decide) (ct_X7_allHorses μ) ?_
  refine e2_callS (w := .int (bi (inB x1 (0 : Int32) ((((1 : Int32) <<< (μ 10 9 &&& 31)) - 1))))) (μ1 := μ) (as := [.int x1, .int 0, .int ((((1 : Int32) <<< (μ 10 9 &&& 31)) - 1))]) (st := []) ok_X7_isWithin sv_X7_isWithin ml_7_86 dX7_wet_6 rfl rfl (Nat.le_of_ble_eq_true rfl) (Nat.le_of_ble_eq_true rfl) (by decide) (ct_X7_isWithin (x1) (0) (((((1 : Int32) <<< (μ 10 9 &&& 31)) - 1))) μ) ?_
  refine ev_ifeq_bi (tgt := 21) dX7_wet_9 rfl (fun c1 => ?_) (fun c1 => ?_)
  · have h2 := h.1 c1
    refine ev_bipush (v := (-2)) dX7_wet_21 rfl ?_
    exact ev_ireturn dX7_wet_23 rfl True.intro rfl rfl ⟨rfl, h2⟩
  · have h3 := h.2 c1
    refine ev_iload_n dX7_wet_12 2 rfl ?_
    refine ev_iconst (v := 0) dX7_wet_13 rfl ?_
    refine ev_iconst (v := 1) dX7_wet_14 rfl ?_
    refine e2_callS (w := .int (bi (inB x2 (0 : Int32) (1 : Int32)))) (μ1 := μ) (as := [.int x2, .int 0, .int 1]) (st := []) ok_X7_isWithin sv_X7_isWithin ml_7_86 dX7_wet_15 rfl rfl (Nat.le_of_ble_eq_true rfl) (Nat.le_of_ble_eq_true rfl) (by decide) (ct_X7_isWithin (x2) (0) (1) μ) ?_
    refine ev_ifne_bi (tgt := 24) dX7_wet_18 rfl (fun c4 => ?_) (fun c4 => ?_)
    · have h5 := h3.1 c4
      refine ev_iconst (v := 0) dX7_wet_24 rfl ?_
      refine ev_istore_n (lv' := [(0, .ref 10), (1, .int x1), (2, .int x2), (3, .int 0)]) dX7_wet_25 (by decide) [1, 2, 3, 0] rfl ?_
      refine ev_iconst (v := (-1)) dX7_wet_26 rfl ?_
      refine ev_istore (lv' := [(0, .ref 10), (1, .int x1), (2, .int x2), (3, .int 0), (4, .int (-1))]) dX7_wet_27 (by decide) [1, 2, 3, 4, 0] rfl ?_
      refine ev_iconst (v := 0) dX7_wet_29 rfl ?_
      refine ev_istore (lv' := [(0, .ref 10), (1, .int x1), (2, .int x2), (3, .int 0), (4, .int (-1)), (5, .int 0)]) dX7_wet_30 (by decide) [1, 2, 3, 4, 5, 0] rfl ?_
      exact h5
    · have h6 := h3.2 c4
      refine ev_bipush (v := (-2)) dX7_wet_21 rfl ?_
      exact ev_ireturn dX7_wet_23 rfl True.intro rfl rfl ⟨rfl, h6⟩
theorem sg_X7_wet_32 {G : GW} {K : Option Value → Mem → Prop} {μ : Mem} {x1 x2 x3 x4 x5 : Int32}  (h : ((7 ≤ x5) → ((¬ x2 = 0) → K (some (.int x4)) μ) ∧ ((x2 = 0) → K (some (.int x3)) μ)) ∧ ((¬ (7 ≤ x5)) → (vp_in x5 7 ∧ goOK (goX μ) ((((1 : Int32) <<< (μ 10 9 &&& 31)) - 1))) ∧ ∀ μ9 : Mem, (sameQ μ μ9 ∧ eq7 (get4 27 μ9) (runV (goX μ) (tmX μ) (wX μ) ((((1 : Int32) <<< (μ 10 9 &&& 31)) - 1)) (-1) x5.toNatClampNeg)) → Ev2 G mX7_wet 7 48 [(0, .ref 10), (1, .int x1), (2, .int x2), (3, .int x3), (4, .int x4), (5, .int x5), (6, .int 0)] [] μ9 K)) : Ev2 G mX7_wet 7 32 [(0, .ref 10), (1, .int x1), (2, .int x2), (3, .int x3), (4, .int x4), (5, .int x5)] [] μ K := by
  refine ev_iload dX7_wet_32 5 rfl ?_
  refine ev_bipush (v := 7) dX7_wet_34 rfl ?_
  refine ev_icmp_ge (tgt := 118) dX7_wet_36 rfl (fun c1 => ?_) (fun c1 => ?_)
  · have h2 := h.1 c1
    refine ev_iload_n dX7_wet_118 2 rfl ?_
    refine ev_if_ne (tgt := 126) dX7_wet_119 rfl (fun c4 => ?_) (fun c4 => ?_)
    · have h5 := h2.1 c4
      refine ev_iload dX7_wet_126 4 rfl ?_
      exact ev_ireturn dX7_wet_128 rfl True.intro rfl rfl ⟨rfl, h5⟩
    · have h6 := h2.2 c4
      refine ev_iload_n dX7_wet_122 3 rfl ?_
      refine ev_goto (tgt := 128) dX7_wet_123 rfl ?_
      exact ev_ireturn dX7_wet_128 rfl True.intro rfl rfl ⟨rfl, h6⟩
  · have h3 := h.2 c1
    refine ev_aload_n dX7_wet_39 0 rfl (by decide) ?_
    refine ev_iload dX7_wet_40 5 rfl ?_
    have p7 := h3.1
    have h8 := h3.2
    refine e2_callVrv (Rl := fun μ9 => sameQ μ μ9 ∧ eq7 (get4 27 μ9) (runV (goX μ) (tmX μ) (wX μ) ((((1 : Int32) <<< (μ 10 9 &&& 31)) - 1)) (-1) x5.toNatClampNeg)) (a := 10) (as := [.int x5]) (st := []) ok_X7_searchAll vi_X7_searchAll ml_7_223 hcl_7 kd_10 dX7_wet_42 rfl rfl (Nat.le_of_ble_eq_true rfl) (Nat.le_of_ble_eq_true rfl) (by decide) (ct_X7_searchAll (x5) μ p7) (fun μ9 r10 => ?_)
    have h11 := h8 μ9 r10
    refine ev_iconst (v := 0) dX7_wet_45 rfl ?_
    refine ev_istore (lv' := [(0, .ref 10), (1, .int x1), (2, .int x2), (3, .int x3), (4, .int x4), (5, .int x5), (6, .int 0)]) dX7_wet_46 (by decide) [1, 2, 3, 4, 5, 6, 0] rfl ?_
    exact h11
theorem sg_X7_wet_48 {G : GW} {K : Option Value → Mem → Prop} {μ : Mem} {x1 x2 x3 x4 x5 x6 : Int32}  (h : ((7 ≤ x6) → Ev2 G mX7_wet 7 32 [(0, .ref 10), (1, .int x1), (2, .int x2), (3, .int x3), (4, .int x4), (5, .int (x5 + 1))] [] μ K) ∧ ((¬ (7 ≤ x6)) → (vp_in x6 7 ∧ chainOK (get4 27 μ)) ∧ ∀ μ6 : Mem, (traceR μ (get4 27 μ) x6.toNatClampNeg μ6) → ((x5 = x6) → Ev2 G mX7_wet 7 48 [(0, .ref 10), (1, .int x1), (2, .int x2), (3, .int x3), (4, .int x4), (5, .int x5), (6, .int (x6 + 1))] [] μ6 K) ∧ ((¬ (x5 = x6)) → ((¬ (μ6 26 6) = x1) → Ev2 G mX7_wet 7 48 [(0, .ref 10), (1, .int x1), (2, .int x2), (3, .int x3), (4, .int x4), (5, .int x5), (6, .int (x6 + 1))] [] μ6 K) ∧ (((μ6 26 6) = x1) → ((¬ x4 = (-1)) → Ev2 G mX7_wet 7 48 [(0, .ref 10), (1, .int x1), (2, .int x2), (3, .int (x3 + 1)), (4, .int x4), (5, .int x5), (6, .int (x6 + 1))] [] μ6 K) ∧ ((x4 = (-1)) → Ev2 G mX7_wet 7 48 [(0, .ref 10), (1, .int x1), (2, .int x2), (3, .int (x3 + 1)), (4, .int ((10 * x5) + x6)), (5, .int x5), (6, .int (x6 + 1))] [] μ6 K))))) : Ev2 G mX7_wet 7 48 [(0, .ref 10), (1, .int x1), (2, .int x2), (3, .int x3), (4, .int x4), (5, .int x5), (6, .int x6)] [] μ K := by
  refine ev_iload dX7_wet_48 6 rfl ?_
  refine ev_bipush (v := 7) dX7_wet_50 rfl ?_
  refine ev_icmp_ge (tgt := 112) dX7_wet_52 rfl (fun c1 => ?_) (fun c1 => ?_)
  · have h2 := h.1 c1
    refine ev_iinc (v := (x5 + 1)) (lv' := [(0, .ref 10), (1, .int x1), (2, .int x2), (3, .int x3), (4, .int x4), (5, .int (x5 + 1)), (6, .int x6)]) dX7_wet_112 5 rfl rfl (by decide) [1, 2, 3, 4, 5, 0, 6] rfl ?_
    refine ev_goto (tgt := 32) dX7_wet_115 rfl ?_
    refine EvW.less [0, 1, 2, 3, 4, 5] (lv' := [(0, .ref 10), (1, .int x1), (2, .int x2), (3, .int x3), (4, .int x4), (5, .int (x5 + 1))]) rfl ?_
    exact h2
  · have h3 := h.2 c1
    refine ev_aload_n dX7_wet_55 0 rfl (by decide) ?_
    refine ev_getR' fl_7_43 rfl kd_10 rf_10_6 dX7_wet_56 ?_
    refine ev_iload dX7_wet_59 6 rfl ?_
    have p4 := h3.1
    have h5 := h3.2
    refine e2_callVrv (Rl := fun μ6 => traceR μ (get4 27 μ) x6.toNatClampNeg μ6) (a := 26) (as := [.int x6]) (st := []) ok_X3_traceTo vi_X3_traceTo ml_7_183 hcl_3 kd_26 dX7_wet_61 rfl rfl (Nat.le_of_ble_eq_true rfl) (Nat.le_of_ble_eq_true rfl) (by decide) (ct_X3_traceTo (x6) μ p4) (fun μ6 r7 => ?_)
    have h8 := h5 μ6 r7
    refine ev_iload dX7_wet_64 5 rfl ?_
    refine ev_iload dX7_wet_66 6 rfl ?_
    refine ev_icmp_eq (tgt := 106) dX7_wet_68 rfl (fun c9 => ?_) (fun c9 => ?_)
    · have h10 := h8.1 c9
      refine ev_iinc (v := (x6 + 1)) (lv' := [(0, .ref 10), (1, .int x1), (2, .int x2), (3, .int x3), (4, .int x4), (5, .int x5), (6, .int (x6 + 1))]) dX7_wet_106 6 rfl rfl (by decide) [1, 2, 3, 4, 5, 6, 0] rfl ?_
      refine ev_goto (tgt := 48) dX7_wet_109 rfl ?_
      exact h10
    · have h11 := h8.2 c9
      refine ev_aload_n dX7_wet_71 0 rfl (by decide) ?_
      refine ev_getR' fl_7_43 rfl kd_10 rf_10_6 dX7_wet_72 ?_
      refine ev_getI' (v := (μ6 26 6)) fl_7_186 rfl kd_26 rfl dX7_wet_75 ?_
      refine ev_iload_n dX7_wet_78 1 rfl ?_
      refine ev_icmp_ne (tgt := 106) dX7_wet_79 rfl (fun c12 => ?_) (fun c12 => ?_)
      · have h13 := h11.1 c12
        refine ev_iinc (v := (x6 + 1)) (lv' := [(0, .ref 10), (1, .int x1), (2, .int x2), (3, .int x3), (4, .int x4), (5, .int x5), (6, .int (x6 + 1))]) dX7_wet_106 6 rfl rfl (by decide) [1, 2, 3, 4, 5, 6, 0] rfl ?_
        refine ev_goto (tgt := 48) dX7_wet_109 rfl ?_
        exact h13
      · have h14 := h11.2 c12
        refine ev_iinc (v := (x3 + 1)) (lv' := [(0, .ref 10), (1, .int x1), (2, .int x2), (3, .int (x3 + 1)), (4, .int x4), (5, .int x5), (6, .int x6)]) dX7_wet_82 3 rfl rfl (by decide) [1, 2, 3, 0, 4, 5, 6] rfl ?_
        refine ev_iload dX7_wet_85 4 rfl ?_
        refine ev_iconst (v := (-1)) dX7_wet_87 rfl ?_
        refine ev_icmp_ne (tgt := 102) dX7_wet_88 rfl (fun c15 => ?_) (fun c15 => ?_)
        · have h16 := h14.1 c15
          refine ev_iload dX7_wet_102 4 rfl ?_
          refine ev_istore (lv' := [(0, .ref 10), (1, .int x1), (2, .int x2), (3, .int (x3 + 1)), (4, .int x4), (5, .int x5), (6, .int x6)]) dX7_wet_104 (by decide) [1, 2, 3, 4, 0, 5, 6] rfl ?_
          refine ev_iinc (v := (x6 + 1)) (lv' := [(0, .ref 10), (1, .int x1), (2, .int x2), (3, .int (x3 + 1)), (4, .int x4), (5, .int x5), (6, .int (x6 + 1))]) dX7_wet_106 6 rfl rfl (by decide) [1, 2, 3, 4, 5, 6, 0] rfl ?_
          refine ev_goto (tgt := 48) dX7_wet_109 rfl ?_
          exact h16
        · have h17 := h14.2 c15
          refine ev_bipush (v := 10) dX7_wet_91 rfl ?_
          refine ev_iload dX7_wet_93 5 rfl ?_
          refine ev_imul dX7_wet_95 ?_
          refine ev_iload dX7_wet_96 6 rfl ?_
          refine ev_iadd dX7_wet_98 ?_
          refine ev_goto (tgt := 104) dX7_wet_99 rfl ?_
          refine ev_istore (lv' := [(0, .ref 10), (1, .int x1), (2, .int x2), (3, .int (x3 + 1)), (4, .int ((10 * x5) + x6)), (5, .int x5), (6, .int x6)]) dX7_wet_104 (by decide) [1, 2, 3, 4, 0, 5, 6] rfl ?_
          refine ev_iinc (v := (x6 + 1)) (lv' := [(0, .ref 10), (1, .int x1), (2, .int x2), (3, .int (x3 + 1)), (4, .int ((10 * x5) + x6)), (5, .int x5), (6, .int (x6 + 1))]) dX7_wet_106 6 rfl rfl (by decide) [1, 2, 3, 4, 5, 6, 0] rfl ?_
          refine ev_goto (tgt := 48) dX7_wet_109 rfl ?_
          exact h17
theorem lp_X7_wetI {G : GW} {α μ0 : Mem} (hf : WF α) {x1 x2 : Int32} {p : Nat} (hp : p < 7) {w : Value} (hnext : ∀ μ, VX α μ → keepM μ0 μ → Ev2 G mX7_wet 7 32 [(0, .ref 10), (1, .int x1), (2, .int x2), (3, .int (wetA α x1 (p + 1)).1), (4, .int (wetA α x1 (p + 1)).2), (5, .int (nI (p + 1)))] [] μ (fun v μ' => v = some w ∧ VX α μ' ∧ keepM μ0 μ')) : ∀ j q (μ : Mem), q + j = 7 → VX α μ → keepM μ0 μ → eq7 (get4 27 μ) (runA α (allA α) (-1) p) → Ev2 G mX7_wet 7 48 [(0, .ref 10), (1, .int x1), (2, .int x2), (3, .int (wetI α x1 p (wetA α x1 p) q).1), (4, .int (wetI α x1 p (wetA α x1 p) q).2), (5, .int (nI p)), (6, .int (nI q))] [] μ (fun v μ' => v = some w ∧ VX α μ' ∧ keepM μ0 μ') := by
  have hc : chainAll (runA α (allA α) (-1) p) := chain_run hp
  intro j
  induction j with
  | zero =>
    intro q μ hq h hm he
    obtain rfl : q = 7 := by omega
    have hh := hnext μ h hm
    rw [wetA_succ, ← nI_1] at hh
    exact sg_X7_wet_48 ⟨fun _ => hh, fun c => absurd (nI_le (a := 7) (Nat.le_refl _) (by omega)) c⟩
  | succ j ih =>
    intro q μ hq h hm he
    refine sg_X7_wet_48 ⟨fun c => absurd c (nI_ge (b := 7) (by omega) (by omega)), fun _ => ⟨⟨vp_nI (by omega) (by omega), (hc.congr he.sy).ok⟩, fun ν hν => ?_⟩⟩
    rw [ix_nI (by omega)] at hν
    obtain ⟨s1, s2, t1, t2, t3, t4⟩ := trace_shown (by omega) he hc hν
    have he' : eq7 (get4 27 ν) (runA α (allA α) (-1) p) := fun r hr k hk => by
      rw [s2 r hr]
      exact he r hr k hk
    have hh := ih (q + 1) ν (by omega) (h.Q hf s1) (hm.tr (keepM.of_sameQ s1)) he'
    rw [wetI_succ, ← nI_1] at hh
    rw [t2]
    unfold stepW at hh
    refine ⟨fun c => ?_, fun c => ⟨fun d => ?_, fun d => ⟨fun e => ?_, fun e => ?_⟩⟩⟩
    · rw [if_pos ((nI_eq (by omega) (by omega)).mp c)] at hh
      exact hh
    · rw [if_neg (fun q' => c (by rw [q'])), if_neg d] at hh
      exact hh
    · rw [if_neg (fun q' => c (by rw [q'])), if_pos d] at hh
      rw [if_neg e] at hh
      exact hh
    · rw [if_neg (fun q' => c (by rw [q'])), if_pos d] at hh
      rw [if_pos e] at hh
      exact hh
theorem lp_X7_wet {G : GW} {α μ0 : Mem} (hf : WF α) {x1 x2 : Int32} : ∀ j p (μ : Mem), p + j = 7 → VX α μ → keepM μ0 μ → Ev2 G mX7_wet 7 32 [(0, .ref 10), (1, .int x1), (2, .int x2), (3, .int (wetA α x1 p).1), (4, .int (wetA α x1 p).2), (5, .int (nI p))] [] μ (fun v μ' => v = some (.int (sel2 x2 (wetA α x1 7).1 (wetA α x1 7).2)) ∧ VX α μ' ∧ keepM μ0 μ') := by
  intro j
  induction j with
  | zero =>
    intro p μ hp h hm
    obtain rfl : p = 7 := by omega
    refine sg_X7_wet_32 ⟨fun _ => ⟨fun c => ⟨?_, h, hm⟩, fun c => ⟨?_, h, hm⟩⟩, fun c => absurd (nI_le (a := 7) (Nat.le_refl _) (by omega)) c⟩
    · unfold sel2; rw [if_neg c]
    · unfold sel2; rw [if_pos c]
  | succ j ih =>
    intro p μ hp h hm
    refine sg_X7_wet_32 ⟨fun c => absurd c (nI_ge (b := 7) (by omega) (by omega)), fun _ => ?_⟩
    rw [VX.all h.1]
    refine ⟨⟨vp_nI (by omega) (by omega), h.go hf (allA_ok hf.1)⟩, fun ν hν => ?_⟩
    rw [ix_nI (by omega)] at hν
    obtain ⟨h1, k1, q1⟩ := all_shown hf h hν
    have hh := lp_X7_wetI (G := G) (μ0 := μ0) hf (x1 := x1) (x2 := x2) (p := p) (by omega) (fun μ h hm => ih (p + 1) μ (by omega) h hm) 7 0 ν rfl h1 (hm.tr k1) q1
    rw [wetI_0] at hh
    exact hh
theorem pb_X7_wet {G : GW} {α μ : Mem} (hf : WF α) (h : VX α μ) (x1 x2 : Int32) : pubX G mX7_wet 7 [(0, .ref 10), (1, .int x1), (2, .int x2)] α μ (.int (sp_wet α x1 x2)) α := by
  refine sg_X7_wet_0 ?_
  rw [VX.all h.1]
  unfold sp_wet
  refine ⟨fun c => ?_, fun c => ⟨fun d => ?_, fun d => ?_⟩⟩
  · rw [if_neg (by rw [c]; decide)]
    exact ⟨rfl, h, keepM.rf μ⟩
  · rw [if_pos c, if_pos d]
    have hh := lp_X7_wet (G := G) hf (x1 := x1) (x2 := x2) 7 0 μ rfl h (keepM.rf μ)
    rw [wetA_0] at hh
    exact hh
  · rw [if_pos c, if_neg (by rw [d]; decide)]
    exact ⟨rfl, h, keepM.rf μ⟩
/-! sheets, shown -/
def numA (α : Mem) (s : Nat) (i : Int32) : Int32 := if holdsB (α 15 s) i 1 = true then α 16 (40 * s + i.toNatClampNeg) else 0
theorem sz_of {α μ : Mem} (hf : WF α) (h : VX0 α μ) {s : Nat} (hs : s < 4) : szOK μ (74 + 2 * s) ∧ μ (74 + 2 * s) 1 = α 14 s ∧ μ (74 + 2 * s) 2 = α 15 s ∧ ∀ i, numF μ (74 + 2 * s) i = numA α s i := by
  obtain ⟨-, z, hz, ez⟩ := hf.2.2.2.2.2.2.2 s hs
  obtain ⟨e1, e2, e3⟩ := h.2.2.2.2.2.2.1 s hs
  refine ⟨⟨z, hz, by rw [e2, ez]⟩, e1, e2, fun i => ?_⟩
  unfold numF numA
  rw [e2]
  by_cases c : holdsB (α 15 s) i 1 = true
  · rw [if_pos c, if_pos c]
    rw [ez] at c
    obtain ⟨k, hk, rfl⟩ := holdsB_1 hz c
    rw [ix_nI (by omega), show 74 + 2 * s + 1 = 75 + 2 * s by omega]
    exact e3 k (by omega)
  · rw [if_neg c, if_neg c]
def refA (α : Mem) (s : Int32) : Int32 := if inB s 0 3 = true then (if α 14 s.toNatClampNeg = -1 then -11 else if α 15 s.toNatClampNeg = 7 then 0 else -2) else -2
theorem ref_shown {α μ : Mem} (hf : WF α) (h : VX0 α μ) (s : Int32) : refF μ s = refA α s := by
  unfold refF refA
  by_cases c : inB s 0 3 = true
  · rw [if_pos c, if_pos c]
    obtain ⟨-, e1, e2, -⟩ := sz_of hf h (va_in_lt (vp4 c))
    rw [e1, e2]
  · rw [if_neg c, if_neg c]
theorem ref_0 {α : Mem} {s : Int32} (h : refA α s = 0) : inB s 0 3 = true := by
  unfold refA at h
  by_cases c : inB s 0 3 = true
  · exact c
  · rw [if_neg c] at h
    exact absurd h (by decide)
def isoA (α : Mem) (a s : Nat) : Bool := soB (runA α (allA α) (-1) a 0) (fun p => numA α s (nI p)) 7
theorem iso_shown {α μ : Mem} (hf : WF α) (h : VX α μ) {s : Nat} (hs : s < 4) (a : Nat) : isoF μ a (74 + 2 * s) = isoA α a s := by
  unfold isoF isoA
  obtain ⟨-, -, -, e⟩ := sz_of hf h.1 hs
  rw [VX.all h.1, h.run (allA_ok hf.1)]
  congr 1
  funext p
  exact e (nI p)
def whA (α : Mem) (s : Nat) : Nat → Int32
  | 0 => 0
  | p + 1 => if isoA α p s = true then whA α s p ||| (1 <<< (nI p &&& 31)) else whA α s p
theorem whA_succ (α : Mem) (s p : Nat) : whA α s (p + 1) = if isoA α p s = true then whA α s p ||| (1 <<< (nI p &&& 31)) else whA α s p := by rw [whA]
def sp_whence (α : Mem) (s : Int32) : Int32 := if refA α s = 0 then whA α s.toNatClampNeg 7 else refA α s
theorem bi_F {b : Bool} (h : bi b = 0) : b = false := by
  cases b
  · rfl
  · exact absurd h (by decide)
theorem bi_T {b : Bool} (h : ¬ bi b = 0) : b = true := by
  cases b
  · exact absurd rfl h
  · rfl
theorem sg_X7_whence_0 {G : GW} {K : Option Value → Mem → Prop} {μ : Mem} {x1 : Int32}  (h : (((refF μ x1) = 0) → Ev2 G mX7_whence 8 17 [(0, .ref 10), (1, .int x1), (3, .int 0), (4, .int 0)] [] μ K) ∧ ((¬ ((refF μ x1) = 0)) → K (some (.int (refF μ x1))) μ)) : Ev2 G mX7_whence 8 0 [(0, .ref 10), (1, .int x1)] [] μ K := by
  refine ev_aload_n dX7_whence_0 0 rfl (by decide) ?_
  refine ev_iload_n dX7_whence_1 1 rfl ?_
  refine e2_callV (w := .int (refF μ x1)) (μ1 := μ) (a := 10) (as := [.int x1]) (st := []) ok_X7_refusalOfSoons vi_X7_refusalOfSoons ml_7_246 hcl_7 kd_10 dX7_whence_2 rfl rfl (Nat.le_of_ble_eq_true rfl) (Nat.le_of_ble_eq_true rfl) (by decide) (ct_X7_refusalOfSoons (x1) μ) ?_
  refine ev_istore_n (lv' := [(0, .ref 10), (1, .int x1), (2, .int (refF μ x1))]) dX7_whence_5 (by decide) [1, 2, 0] rfl ?_
  refine ev_iload_n dX7_whence_6 2 rfl ?_
  refine ev_if_eq (tgt := 12) dX7_whence_7 rfl (fun c1 => ?_) (fun c1 => ?_)
  · have h2 := h.1 c1
    refine ev_iconst (v := 0) dX7_whence_12 rfl ?_
    refine ev_istore_n (lv' := [(0, .ref 10), (1, .int x1), (2, .int (refF μ x1)), (3, .int 0)]) dX7_whence_13 (by decide) [1, 2, 3, 0] rfl ?_
    refine ev_iconst (v := 0) dX7_whence_14 rfl ?_
    refine ev_istore (lv' := [(0, .ref 10), (1, .int x1), (2, .int (refF μ x1)), (3, .int 0), (4, .int 0)]) dX7_whence_15 (by decide) [1, 2, 3, 4, 0] rfl ?_
    refine EvW.less [0, 1, 3, 4] (lv' := [(0, .ref 10), (1, .int x1), (3, .int 0), (4, .int 0)]) rfl ?_
    exact h2
  · have h3 := h.2 c1
    refine ev_iload_n dX7_whence_10 2 rfl ?_
    exact ev_ireturn dX7_whence_11 rfl True.intro rfl rfl ⟨rfl, h3⟩
theorem sg_X7_whence_17 {G : GW} {K : Option Value → Mem → Prop} {μ : Mem} {x1 x3 x4 : Int32}  (h : ((7 ≤ x4) → K (some (.int x3)) μ) ∧ ((¬ (7 ≤ x4)) → (vp_in x1 4) ∧ (vp_in x4 7 ∧ goOK (goX μ) ((((1 : Int32) <<< (μ 10 9 &&& 31)) - 1)) ∧ szOK μ (74 + 2 * x1.toNatClampNeg)) ∧ ∀ (z8 : Int32) (μ9 : Mem), (z8 = bi (isoF μ x4.toNatClampNeg (74 + 2 * x1.toNatClampNeg)) ∧ sameQ μ μ9) → ((z8 = 0) → Ev2 G mX7_whence 8 17 [(0, .ref 10), (1, .int x1), (3, .int x3), (4, .int (x4 + 1))] [] μ9 K) ∧ ((¬ (z8 = 0)) → ∀ y15 : Int32, y15 = (x3 ||| ((1 : Int32) <<< (x4 &&& 31))) → Ev2 G mX7_whence 8 17 [(0, .ref 10), (1, .int x1), (3, .int y15), (4, .int (x4 + 1))] [] μ9 K))) : Ev2 G mX7_whence 8 17 [(0, .ref 10), (1, .int x1), (3, .int x3), (4, .int x4)] [] μ K := by
  refine ev_iload dX7_whence_17 3 rfl ?_
  refine ev_bipush (v := 7) dX7_whence_19 rfl ?_
  refine ev_icmp_ge (tgt := 52) dX7_whence_21 rfl (fun c1 => ?_) (fun c1 => ?_)
  · have h2 := h.1 c1
    refine ev_iload_n dX7_whence_52 2 rfl ?_
    exact ev_ireturn dX7_whence_53 rfl True.intro rfl rfl ⟨rfl, h2⟩
  · have h3 := h.2 c1
    refine ev_aload_n dX7_whence_24 0 rfl (by decide) ?_
    refine ev_iload dX7_whence_25 3 rfl ?_
    refine ev_aload_n dX7_whence_27 0 rfl (by decide) ?_
    refine ev_getR' fl_7_56 rfl kd_10 rf_10_8 dX7_whence_28 ?_
    refine ev_iload_n dX7_whence_31 1 rfl ?_
    have p4 := h3.1
    have h5 := h3.2
    refine ev_aaload' (k := 7) kd_42 (by omega) ln_42 p4 (raS p4) dX7_whence_32 ?_
    have p6 := h5.1
    have h7 := h5.2
    refine e2_callVr (Rl := fun z8 μ9 => z8 = bi (isoF μ x4.toNatClampNeg (74 + 2 * x1.toNatClampNeg)) ∧ sameQ μ μ9) (a := 10) (as := [.int x4, .ref (74 + 2 * x1.toNatClampNeg)]) (st := []) ok_X7_isSoFrom vi_X7_isSoFrom ml_7_249 hcl_7 kd_10 dX7_whence_33 rfl rfl (Nat.le_of_ble_eq_true rfl) (Nat.le_of_ble_eq_true rfl) (by decide) (ct_X7_isSoFrom (x4) (74 + 2 * x1.toNatClampNeg) (isS p4) μ p6) (fun z8 μ9 r10 => ?_)
    have h11 := h7 z8 μ9 r10
    refine ev_if_eq (tgt := 46) dX7_whence_36 rfl (fun c12 => ?_) (fun c12 => ?_)
    · have h13 := h11.1 c12
      refine ev_iinc (v := (x4 + 1)) (lv' := [(0, .ref 10), (1, .int x1), (3, .int x3), (4, .int (x4 + 1))]) dX7_whence_46 3 rfl rfl (by decide) [1, 2, 3, 0] rfl ?_
      refine ev_goto (tgt := 17) dX7_whence_49 rfl ?_
      exact h13
    · have h14 := h11.2 c12
      refine ev_iload_n dX7_whence_39 2 rfl ?_
      refine ev_iconst (v := 1) dX7_whence_40 rfl ?_
      refine ev_iload dX7_whence_41 3 rfl ?_
      refine ev_ishl dX7_whence_43 ?_
      refine ev_ior dX7_whence_44 ?_
      refine ev_top (fun y15 ey15 => ?_)
      have h16 := h14 y15 ey15
      refine ev_istore_n (lv' := [(0, .ref 10), (1, .int x1), (3, .int y15), (4, .int x4)]) dX7_whence_45 (by decide) [1, 2, 0, 3] rfl ?_
      refine ev_iinc (v := (x4 + 1)) (lv' := [(0, .ref 10), (1, .int x1), (3, .int y15), (4, .int (x4 + 1))]) dX7_whence_46 3 rfl rfl (by decide) [1, 2, 3, 0] rfl ?_
      refine ev_goto (tgt := 17) dX7_whence_49 rfl ?_
      exact h16
theorem lp_X7_whence {G : GW} {α μ0 : Mem} (hf : WF α) {s : Nat} (hs : s < 4) : ∀ j p (μ : Mem), p + j = 7 → VX α μ → keepM μ0 μ → Ev2 G mX7_whence 8 17 [(0, .ref 10), (1, .int (nI s)), (3, .int (whA α s p)), (4, .int (nI p))] [] μ (fun v μ' => v = some (.int (whA α s 7)) ∧ VX α μ' ∧ keepM μ0 μ') := by
  intro j
  induction j with
  | zero =>
    intro p μ hp h hm
    obtain rfl : p = 7 := by omega
    exact sg_X7_whence_17 ⟨fun _ => ⟨rfl, h, hm⟩, fun c => absurd (nI_le (a := 7) (Nat.le_refl _) (by omega)) c⟩
  | succ j ih =>
    intro p μ hp h hm
    refine sg_X7_whence_17 ⟨fun c => absurd c (nI_ge (b := 7) (by omega) (by omega)), fun _ => ⟨vp_nI hs (by omega), ?_⟩⟩
    rw [VX.all h.1, ix_nI (by omega), ix_nI (by omega)]
    refine ⟨⟨vp_nI (by omega) (by omega), h.go hf (allA_ok hf.1), (sz_of hf h.1 hs).1⟩, fun x ν hx => ?_⟩
    obtain ⟨ex, hq⟩ := hx
    rw [iso_shown hf h hs] at ex
    obtain ⟨h1, k1⟩ := h.Q' hf hq
    have hh := ih (p + 1) ν (by omega) h1 (hm.tr k1)
    rw [whA_succ, ← nI_1] at hh
    rw [ex]
    refine ⟨fun c => ?_, fun c y hy => ?_⟩
    · rw [if_neg (by rw [bi_F c]; decide)] at hh
      exact hh
    · rw [if_pos (bi_T c)] at hh
      rw [hy]
      exact hh
theorem pb_X7_whence {G : GW} {α μ : Mem} (hf : WF α) (h : VX α μ) (x1 : Int32) : pubX G mX7_whence 8 [(0, .ref 10), (1, .int x1)] α μ (.int (sp_whence α x1)) α := by
  refine sg_X7_whence_0 ?_
  rw [ref_shown hf h.1]
  unfold sp_whence
  refine ⟨fun c => ?_, fun c => ?_⟩
  · rw [if_pos c]
    obtain ⟨s, hs, rfl⟩ := inB_nI (m := 3) (by omega) (ref_0 c)
    rw [ix_nI (by omega)]
    exact lp_X7_whence hf (by omega) 7 0 μ rfl h (keepM.rf μ)
  · rw [if_neg c]
    exact ⟨rfl, h, keepM.rf μ⟩
/-! laws -/
theorem law_law (α : Mem) (t u : Int32) : lawA (lawA α t) u = lawA α u := by
  funext r k
  unfold lawA mset
  by_cases c : r = 0 ∧ k = 3
  · rw [if_pos c, if_pos c]
  · rw [if_neg c, if_neg c, if_neg c]
theorem law_self (α : Mem) : lawA α (α 0 3) = α := by
  funext r k
  unfold lawA mset
  by_cases c : r = 0 ∧ k = 3
  · rw [if_pos c, c.1, c.2]
  · rw [if_neg c]
def lwA (α : Mem) (a s : Nat) : Nat → Int32
  | 0 => 0
  | t + 1 => if isoA (lawA α (nI t)) a s = true then lwA α a s t ||| (1 <<< (nI t &&& 31)) else lwA α a s t
theorem lwA_succ (α : Mem) (a s t : Nat) : lwA α a s (t + 1) = if isoA (lawA α (nI t)) a s = true then lwA α a s t ||| (1 <<< (nI t &&& 31)) else lwA α a s t := by rw [lwA]
def sp_laws (α : Mem) (s a : Int32) : Int32 := if refA α s = 0 then (if inB a 0 6 = true then lwA α a.toNatClampNeg s.toNatClampNeg (aX α) else -5) else refA α s
theorem sg_X7_laws_0 {G : GW} {K : Option Value → Mem → Prop} {μ : Mem} {x1 x2 : Int32}  (h : (((refF μ x1) = 0) → (((inB x2 0 6) = true) → Ev2 G mX7_laws 8 34 [(0, .ref 10), (1, .int x1), (2, .int x2), (4, .int (μ 10 12)), (5, .int 0), (6, .int 0)] [] μ K) ∧ (((inB x2 0 6) = false) → K (some (.int (-5))) μ)) ∧ ((¬ ((refF μ x1) = 0)) → K (some (.int (refF μ x1))) μ)) : Ev2 G mX7_laws 8 0 [(0, .ref 10), (1, .int x1), (2, .int x2)] [] μ K := by
  refine ev_aload_n dX7_laws_0 0 rfl (by decide) ?_
  refine ev_iload_n dX7_laws_1 1 rfl ?_
  refine e2_callV (w := .int (refF μ x1)) (μ1 := μ) (a := 10) (as := [.int x1]) (st := []) ok_X7_refusalOfSoons vi_X7_refusalOfSoons ml_7_246 hcl_7 kd_10 dX7_laws_2 rfl rfl (Nat.le_of_ble_eq_true rfl) (Nat.le_of_ble_eq_true rfl) (by decide) (ct_X7_refusalOfSoons (x1) μ) ?_
  refine ev_istore_n (lv' := [(0, .ref 10), (1, .int x1), (2, .int x2), (3, .int (refF μ x1))]) dX7_laws_5 (by decide) [1, 2, 3, 0] rfl ?_
  refine ev_iload_n dX7_laws_6 3 rfl ?_
  refine ev_if_eq (tgt := 12) dX7_laws_7 rfl (fun c1 => ?_) (fun c1 => ?_)
  · have h2 := h.1 c1
    refine ev_iload_n dX7_laws_12 2 rfl ?_
    refine e2_callS (w := .int (bi (inB x2 0 6))) (μ1 := μ) (as := [.int x2]) (st := []) ok_X7_isPlace sv_X7_isPlace ml_7_94 dX7_laws_13 rfl rfl (Nat.le_of_ble_eq_true rfl) (Nat.le_of_ble_eq_true rfl) (by decide) (ct_X7_isPlace (x2) μ) ?_
    refine ev_ifne_bi (tgt := 22) dX7_laws_16 rfl (fun c4 => ?_) (fun c4 => ?_)
    · have h5 := h2.1 c4
      refine ev_aload_n dX7_laws_22 0 rfl (by decide) ?_
      refine ev_getI' (v := (μ 10 12)) fl_7_70 rfl kd_10 rfl dX7_laws_23 ?_
      refine ev_istore (lv' := [(0, .ref 10), (1, .int x1), (2, .int x2), (3, .int (refF μ x1)), (4, .int (μ 10 12))]) dX7_laws_26 (by decide) [1, 2, 3, 4, 0] rfl ?_
      refine ev_iconst (v := 0) dX7_laws_28 rfl ?_
      refine ev_istore (lv' := [(0, .ref 10), (1, .int x1), (2, .int x2), (3, .int (refF μ x1)), (4, .int (μ 10 12)), (5, .int 0)]) dX7_laws_29 (by decide) [1, 2, 3, 4, 5, 0] rfl ?_
      refine ev_iconst (v := 0) dX7_laws_31 rfl ?_
      refine ev_istore (lv' := [(0, .ref 10), (1, .int x1), (2, .int x2), (3, .int (refF μ x1)), (4, .int (μ 10 12)), (5, .int 0), (6, .int 0)]) dX7_laws_32 (by decide) [1, 2, 3, 4, 5, 6, 0] rfl ?_
      refine EvW.less [0, 1, 2, 4, 5, 6] (lv' := [(0, .ref 10), (1, .int x1), (2, .int x2), (4, .int (μ 10 12)), (5, .int 0), (6, .int 0)]) rfl ?_
      exact h5
    · have h6 := h2.2 c4
      refine ev_bipush (v := (-5)) dX7_laws_19 rfl ?_
      exact ev_ireturn dX7_laws_21 rfl True.intro rfl rfl ⟨rfl, h6⟩
  · have h3 := h.2 c1
    refine ev_iload_n dX7_laws_10 3 rfl ?_
    exact ev_ireturn dX7_laws_11 rfl True.intro rfl rfl ⟨rfl, h3⟩
theorem sg_X7_laws_34 {G : GW} {K : Option Value → Mem → Prop} {μ : Mem} {x1 x2 x4 x5 x6 : Int32}  (h : (((μ 10 11) ≤ x6) → (hearAllOK (mset μ 10 12 x4)) ∧ ∀ μ6 : Mem, (hearAllR (mset μ 10 12 x4) μ6) → K (some (.int x5)) μ6) ∧ ((¬ ((μ 10 11) ≤ x6)) → (hearAllOK (mset μ 10 12 x6)) ∧ ∀ μ11 : Mem, (hearAllR (mset μ 10 12 x6) μ11) → (vp_in x1 4) ∧ (vp_in x2 7 ∧ goOK (goX μ11) ((((1 : Int32) <<< (μ11 10 9 &&& 31)) - 1)) ∧ szOK μ11 (74 + 2 * x1.toNatClampNeg)) ∧ ∀ (z18 : Int32) (μ19 : Mem), (z18 = bi (isoF μ11 x2.toNatClampNeg (74 + 2 * x1.toNatClampNeg)) ∧ sameQ μ11 μ19) → ((z18 = 0) → Ev2 G mX7_laws 8 34 [(0, .ref 10), (1, .int x1), (2, .int x2), (4, .int x4), (5, .int x5), (6, .int (x6 + 1))] [] μ19 K) ∧ ((¬ (z18 = 0)) → ∀ y25 : Int32, y25 = (x5 ||| ((1 : Int32) <<< (x6 &&& 31))) → Ev2 G mX7_laws 8 34 [(0, .ref 10), (1, .int x1), (2, .int x2), (4, .int x4), (5, .int y25), (6, .int (x6 + 1))] [] μ19 K))) : Ev2 G mX7_laws 8 34 [(0, .ref 10), (1, .int x1), (2, .int x2), (4, .int x4), (5, .int x5), (6, .int x6)] [] μ K := by
  refine ev_iload dX7_laws_34 5 rfl ?_
  refine ev_aload_n dX7_laws_36 0 rfl (by decide) ?_
  refine ev_getI' (v := (μ 10 11)) fl_7_67 rfl kd_10 rfl dX7_laws_37 ?_
  refine ev_icmp_ge (tgt := 78) dX7_laws_40 rfl (fun c1 => ?_) (fun c1 => ?_)
  · have h2 := h.1 c1
    refine ev_aload_n dX7_laws_78 0 rfl (by decide) ?_
    refine ev_iload dX7_laws_79 3 rfl ?_
    have p4 := h2.1
    have h5 := h2.2
    refine e2_callVrv (Rl := fun μ6 => hearAllR (mset μ 10 12 x4) μ6) (a := 10) (as := [.int x4]) (st := []) ok_X7_setLaw vi_X7_setLaw ml_7_125 hcl_7 kd_10 dX7_laws_81 rfl rfl (Nat.le_of_ble_eq_true rfl) (Nat.le_of_ble_eq_true rfl) (by decide) (ct_X7_setLaw (x4) μ p4) (fun μ6 r7 => ?_)
    have h8 := h5 μ6 r7
    refine ev_iload dX7_laws_84 4 rfl ?_
    exact ev_ireturn dX7_laws_86 rfl True.intro rfl rfl ⟨rfl, h8⟩
  · have h3 := h.2 c1
    refine ev_aload_n dX7_laws_43 0 rfl (by decide) ?_
    refine ev_iload dX7_laws_44 5 rfl ?_
    have p9 := h3.1
    have h10 := h3.2
    refine e2_callVrv (Rl := fun μ11 => hearAllR (mset μ 10 12 x6) μ11) (a := 10) (as := [.int x6]) (st := []) ok_X7_setLaw vi_X7_setLaw ml_7_125 hcl_7 kd_10 dX7_laws_46 rfl rfl (Nat.le_of_ble_eq_true rfl) (Nat.le_of_ble_eq_true rfl) (by decide) (ct_X7_setLaw (x6) μ p9) (fun μ11 r12 => ?_)
    have h13 := h10 μ11 r12
    refine ev_aload_n dX7_laws_49 0 rfl (by decide) ?_
    refine ev_iload_n dX7_laws_50 2 rfl ?_
    refine ev_aload_n dX7_laws_51 0 rfl (by decide) ?_
    refine ev_getR' fl_7_56 rfl kd_10 rf_10_8 dX7_laws_52 ?_
    refine ev_iload_n dX7_laws_55 1 rfl ?_
    have p14 := h13.1
    have h15 := h13.2
    refine ev_aaload' (k := 7) kd_42 (by omega) ln_42 p14 (raS p14) dX7_laws_56 ?_
    have p16 := h15.1
    have h17 := h15.2
    refine e2_callVr (Rl := fun z18 μ19 => z18 = bi (isoF μ11 x2.toNatClampNeg (74 + 2 * x1.toNatClampNeg)) ∧ sameQ μ11 μ19) (a := 10) (as := [.int x2, .ref (74 + 2 * x1.toNatClampNeg)]) (st := []) ok_X7_isSoFrom vi_X7_isSoFrom ml_7_249 hcl_7 kd_10 dX7_laws_57 rfl rfl (Nat.le_of_ble_eq_true rfl) (Nat.le_of_ble_eq_true rfl) (by decide) (ct_X7_isSoFrom (x2) (74 + 2 * x1.toNatClampNeg) (isS p14) μ11 p16) (fun z18 μ19 r20 => ?_)
    have h21 := h17 z18 μ19 r20
    refine ev_if_eq (tgt := 72) dX7_laws_60 rfl (fun c22 => ?_) (fun c22 => ?_)
    · have h23 := h21.1 c22
      refine ev_iinc (v := (x6 + 1)) (lv' := [(0, .ref 10), (1, .int x1), (2, .int x2), (4, .int x4), (5, .int x5), (6, .int (x6 + 1))]) dX7_laws_72 5 rfl rfl (by decide) [1, 2, 3, 4, 5, 0] rfl ?_
      refine ev_goto (tgt := 34) dX7_laws_75 rfl ?_
      exact h23
    · have h24 := h21.2 c22
      refine ev_iload dX7_laws_63 4 rfl ?_
      refine ev_iconst (v := 1) dX7_laws_65 rfl ?_
      refine ev_iload dX7_laws_66 5 rfl ?_
      refine ev_ishl dX7_laws_68 ?_
      refine ev_ior dX7_laws_69 ?_
      refine ev_top (fun y25 ey25 => ?_)
      have h26 := h24 y25 ey25
      refine ev_istore (lv' := [(0, .ref 10), (1, .int x1), (2, .int x2), (4, .int x4), (5, .int y25), (6, .int x6)]) dX7_laws_70 (by decide) [1, 2, 3, 4, 0, 5] rfl ?_
      refine ev_iinc (v := (x6 + 1)) (lv' := [(0, .ref 10), (1, .int x1), (2, .int x2), (4, .int x4), (5, .int y25), (6, .int (x6 + 1))]) dX7_laws_72 5 rfl rfl (by decide) [1, 2, 3, 4, 5, 0] rfl ?_
      refine ev_goto (tgt := 34) dX7_laws_75 rfl ?_
      exact h26
theorem lp_X7_laws {G : GW} {α μ0 : Mem} (hf : WF α) {a s : Nat} (ha : a < 7) (hs : s < 4) : ∀ j t l (μ : Mem), t + j = aX α → l < aX α → VX (lawA α (nI l)) μ → keepM μ0 μ → Ev2 G mX7_laws 8 34 [(0, .ref 10), (1, .int (nI s)), (2, .int (nI a)), (4, .int (α 0 3)), (5, .int (lwA α a s t)), (6, .int (nI t))] [] μ (fun v μ' => v = some (.int (lwA α a s (aX α))) ∧ VX α μ' ∧ keepM μ0 μ') := by
  have hx6 := hf.1.2.2.1.2
  intro j
  induction j with
  | zero =>
    intro t l μ ht hl h hm
    obtain rfl : t = aX α := by omega
    have hf' := wf_law hf hl
    have cX : μ 10 11 = nI (aX α) := h.1.1.2.2.1.trans ((mset_other (by omega)).trans hf.1.2.2.1.1)
    have e3 : α 0 3 = nI (aL α) := hf.1.2.2.2.1.1
    have hv := vx_law hf' h.1 (α 0 3)
    rw [law_law, law_self] at hv
    refine sg_X7_laws_34 ⟨fun _ => ⟨hv.hear hf, fun ν hν => ⟨rfl, hv.heard hf hν, ?_⟩⟩, fun c => ?_⟩
    · exact hm.tr ((keep_set μ (by omega) _).tr (keepM.of_hearS hν.1))
    · rw [cX] at c
      exact absurd (nI_le (Nat.le_refl _) (by omega)) c
  | succ j ih =>
    intro t l μ ht hl h hm
    have hf' := wf_law hf hl
    have cX : μ 10 11 = nI (aX α) := h.1.1.2.2.1.trans ((mset_other (by omega)).trans hf.1.2.2.1.1)
    refine sg_X7_laws_34 ⟨fun c => ?_, fun _ => ?_⟩
    · rw [cX] at c
      exact absurd c (nI_ge (by omega) (by omega))
    · have hft := wf_law hf (l := t) (by omega)
      have hv := vx_law hf' h.1 (nI t)
      rw [law_law] at hv
      refine ⟨hv.hear hft, fun ν hν => ?_⟩
      have h1 := hv.heard hft hν
      have k1 : keepM μ0 ν := hm.tr ((keep_set μ (by omega) _).tr (keepM.of_hearS hν.1))
      refine ⟨vp_nI hs (by omega), ?_⟩
      rw [VX.all h1.1, ix_nI (by omega), ix_nI (by omega)]
      refine ⟨⟨vp_nI ha (by omega), h1.go hft (allA_ok hft.1), (sz_of hft h1.1 hs).1⟩, fun x ξ hx => ?_⟩
      obtain ⟨ex, hq⟩ := hx
      rw [iso_shown hft h1 hs] at ex
      obtain ⟨h2, k2⟩ := h1.Q' hft hq
      have hh := ih (t + 1) t ξ (by omega) (by omega) h2 (k1.tr k2)
      rw [lwA_succ, ← nI_1] at hh
      rw [ex]
      refine ⟨fun c => ?_, fun c y hy => ?_⟩
      · rw [if_neg (by rw [bi_F c]; decide)] at hh
        exact hh
      · rw [if_pos (bi_T c)] at hh
        rw [hy]
        exact hh
theorem pb_X7_laws {G : GW} {α μ : Mem} (hf : WF α) (h : VX α μ) (x1 x2 : Int32) : pubX G mX7_laws 8 [(0, .ref 10), (1, .int x1), (2, .int x2)] α μ (.int (sp_laws α x1 x2)) α := by
  refine sg_X7_laws_0 ?_
  have cL : μ 10 12 = α 0 3 := h.1.1.2.2.2.1
  rw [ref_shown hf h.1, cL]
  unfold sp_laws
  refine ⟨fun c => ⟨fun d => ?_, fun d => ?_⟩, fun c => ?_⟩
  · rw [if_pos c, if_pos d]
    obtain ⟨s, hs, rfl⟩ := inB_nI (m := 3) (by omega) (ref_0 c)
    obtain ⟨a, ha, rfl⟩ := inB_nI (m := 6) (by omega) d
    rw [ix_nI (i := a) (by omega), ix_nI (i := s) (by omega)]
    have e3 : α 0 3 = nI (aL α) := hf.1.2.2.2.1.1
    exact lp_X7_laws hf (by omega) (by omega) (aX α) 0 (aL α) μ (by omega) hf.1.2.2.2.1.2 (by rw [← e3, law_self]; exact h) (keepM.rf μ)
  · rw [if_pos c, if_neg (by rw [d]; decide)]
    exact ⟨rfl, h, keepM.rf μ⟩
  · rw [if_neg c]
    exact ⟨rfl, h, keepM.rf μ⟩
/-! mean -/
def meanA (α : Mem) (a b : Nat) (seed : Int32) : Nat → Int32
  | 0 => 0
  | i + 1 => meanA α a b seed i + soonA α (drwV (fun x => saidA α 2 x) (seed + nI i) (aN α)) a b
theorem meanA_succ (α : Mem) (a b : Nat) (seed : Int32) (i : Nat) : meanA α a b seed (i + 1) = meanA α a b seed i + soonA α (drwV (fun x => saidA α 2 x) (seed + nI i) (aN α)) a b := by rw [meanA]
def askB (a b seed seeds part : Int32) : Bool := inB a 0 6 && (inB b 0 6 && (inB seed 0 99999 && (inB seeds 1 30 && inB part 0 1)))
def sp_mean (α : Mem) (a b seed seeds part : Int32) : Int64 := if askB a b seed seeds part = true then (if part = 0 then Int32.toInt64 (meanA α a.toNatClampNeg b.toNatClampNeg seed seeds.toNatClampNeg / gcF 64 seeds (meanA α a.toNatClampNeg b.toNatClampNeg seed seeds.toNatClampNeg)) else Int32.toInt64 (seeds / gcF 64 seeds (meanA α a.toNatClampNeg b.toNatClampNeg seed seeds.toNatClampNeg))) else -4611686018427387904
theorem imax1 (a : Int32) : ¬ imax 1 a = 0 := by
  intro h
  unfold imax at h
  split at h
  · rename_i c
    rw [h] at c
    exact absurd c (by decide)
  · exact absurd h (by decide)
theorem gcF_nz : ∀ f a b, ¬ gcF f a b = 0 := by
  intro f
  induction f with
  | zero => intro a b; exact imax1 a
  | succ f ih =>
    intro a b
    unfold gcF
    split
    · exact imax1 a
    · exact ih _ _
theorem sg_X7_mean_0 {G : GW} {K : Option Value → Mem → Prop} {μ : Mem} {x1 x2 x3 x4 x5 : Int32}  (h : (((inB x1 0 6) = false) → ((¬ (0 : Int32) = 0) → Ev2 G mX7_mean 7 68 [(0, .ref 10), (1, .int x1), (2, .int x2), (3, .int x3), (4, .int x4), (5, .int x5), (7, .int 0), (8, .int 0)] [] μ K) ∧ (((0 : Int32) = 0) → K (some (.long (-4611686018427387904 : Int64))) μ)) ∧ (((inB x1 0 6) = true) → (((inB x2 0 6) = false) → ((¬ (0 : Int32) = 0) → Ev2 G mX7_mean 7 68 [(0, .ref 10), (1, .int x1), (2, .int x2), (3, .int x3), (4, .int x4), (5, .int x5), (7, .int 0), (8, .int 0)] [] μ K) ∧ (((0 : Int32) = 0) → K (some (.long (-4611686018427387904 : Int64))) μ)) ∧ (((inB x2 0 6) = true) → (((inB x3 (0 : Int32) (99999 : Int32)) = false) → ((¬ (0 : Int32) = 0) → Ev2 G mX7_mean 7 68 [(0, .ref 10), (1, .int x1), (2, .int x2), (3, .int x3), (4, .int x4), (5, .int x5), (7, .int 0), (8, .int 0)] [] μ K) ∧ (((0 : Int32) = 0) → K (some (.long (-4611686018427387904 : Int64))) μ)) ∧ (((inB x3 (0 : Int32) (99999 : Int32)) = true) → (((inB x4 (1 : Int32) (30 : Int32)) = false) → ((¬ (0 : Int32) = 0) → Ev2 G mX7_mean 7 68 [(0, .ref 10), (1, .int x1), (2, .int x2), (3, .int x3), (4, .int x4), (5, .int x5), (7, .int 0), (8, .int 0)] [] μ K) ∧ (((0 : Int32) = 0) → K (some (.long (-4611686018427387904 : Int64))) μ)) ∧ (((inB x4 (1 : Int32) (30 : Int32)) = true) → (((inB x5 (0 : Int32) (1 : Int32)) = false) → ((¬ (0 : Int32) = 0) → Ev2 G mX7_mean 7 68 [(0, .ref 10), (1, .int x1), (2, .int x2), (3, .int x3), (4, .int x4), (5, .int x5), (7, .int 0), (8, .int 0)] [] μ K) ∧ (((0 : Int32) = 0) → K (some (.long (-4611686018427387904 : Int64))) μ)) ∧ (((inB x5 (0 : Int32) (1 : Int32)) = true) → ((¬ (1 : Int32) = 0) → Ev2 G mX7_mean 7 68 [(0, .ref 10), (1, .int x1), (2, .int x2), (3, .int x3), (4, .int x4), (5, .int x5), (7, .int 0), (8, .int 0)] [] μ K) ∧ (((1 : Int32) = 0) → K (some (.long (-4611686018427387904 : Int64))) μ))))))) : Ev2 G mX7_mean 7 0 [(0, .ref 10), (1, .int x1), (2, .int x2), (3, .int x3), (4, .int x4), (5, .int x5)] [] μ K := by
  refine ev_iload_n dX7_mean_0 1 rfl ?_
  refine e2_callS (w := .int (bi (inB x1 0 6))) (μ1 := μ) (as := [.int x1]) (st := []) ok_X7_isPlace sv_X7_isPlace ml_7_94 dX7_mean_1 rfl rfl (Nat.le_of_ble_eq_true rfl) (Nat.le_of_ble_eq_true rfl) (by decide) (ct_X7_isPlace (x1) μ) ?_
  refine ev_ifeq_bi (tgt := 50) dX7_mean_4 rfl (fun c1 => ?_) (fun c1 => ?_)
  · have h2 := h.1 c1
    refine ev_iconst (v := 0) dX7_mean_50 rfl ?_
    refine ev_istore (lv' := [(0, .ref 10), (1, .int x1), (2, .int x2), (3, .int x3), (4, .int x4), (5, .int x5), (6, .int 0)]) dX7_mean_51 (by decide) [1, 2, 3, 4, 5, 6, 0] rfl ?_
    refine ev_iload dX7_mean_53 6 rfl ?_
    refine ev_if_ne (tgt := 62) dX7_mean_55 rfl (fun c4 => ?_) (fun c4 => ?_)
    · have h5 := h2.1 c4
      refine ev_iconst (v := 0) dX7_mean_62 rfl ?_
      refine ev_istore (lv' := [(0, .ref 10), (1, .int x1), (2, .int x2), (3, .int x3), (4, .int x4), (5, .int x5), (6, .int 0), (7, .int 0)]) dX7_mean_63 (by decide) [1, 2, 3, 4, 5, 6, 7, 0] rfl ?_
      refine ev_iconst (v := 0) dX7_mean_65 rfl ?_
      refine ev_istore (lv' := [(0, .ref 10), (1, .int x1), (2, .int x2), (3, .int x3), (4, .int x4), (5, .int x5), (6, .int 0), (7, .int 0), (8, .int 0)]) dX7_mean_66 (by decide) [1, 2, 3, 4, 5, 6, 7, 8, 0] rfl ?_
      refine EvW.less [0, 1, 2, 3, 4, 5, 7, 8] (lv' := [(0, .ref 10), (1, .int x1), (2, .int x2), (3, .int x3), (4, .int x4), (5, .int x5), (7, .int 0), (8, .int 0)]) rfl ?_
      exact h5
    · have h6 := h2.2 c4
      refine ev_ldc2 dX7_mean_58 co_7_214 ?_
      exact ev_lreturn dX7_mean_61 rfl rfl rfl ⟨rfl, h6⟩
  · have h3 := h.2 c1
    refine ev_iload_n dX7_mean_7 2 rfl ?_
    refine e2_callS (w := .int (bi (inB x2 0 6))) (μ1 := μ) (as := [.int x2]) (st := []) ok_X7_isPlace sv_X7_isPlace ml_7_94 dX7_mean_8 rfl rfl (Nat.le_of_ble_eq_true rfl) (Nat.le_of_ble_eq_true rfl) (by decide) (ct_X7_isPlace (x2) μ) ?_
    refine ev_ifeq_bi (tgt := 50) dX7_mean_11 rfl (fun c7 => ?_) (fun c7 => ?_)
    · have h8 := h3.1 c7
      refine ev_iconst (v := 0) dX7_mean_50 rfl ?_
      refine ev_istore (lv' := [(0, .ref 10), (1, .int x1), (2, .int x2), (3, .int x3), (4, .int x4), (5, .int x5), (6, .int 0)]) dX7_mean_51 (by decide) [1, 2, 3, 4, 5, 6, 0] rfl ?_
      refine ev_iload dX7_mean_53 6 rfl ?_
      refine ev_if_ne (tgt := 62) dX7_mean_55 rfl (fun c10 => ?_) (fun c10 => ?_)
      · have h11 := h8.1 c10
        refine ev_iconst (v := 0) dX7_mean_62 rfl ?_
        refine ev_istore (lv' := [(0, .ref 10), (1, .int x1), (2, .int x2), (3, .int x3), (4, .int x4), (5, .int x5), (6, .int 0), (7, .int 0)]) dX7_mean_63 (by decide) [1, 2, 3, 4, 5, 6, 7, 0] rfl ?_
        refine ev_iconst (v := 0) dX7_mean_65 rfl ?_
        refine ev_istore (lv' := [(0, .ref 10), (1, .int x1), (2, .int x2), (3, .int x3), (4, .int x4), (5, .int x5), (6, .int 0), (7, .int 0), (8, .int 0)]) dX7_mean_66 (by decide) [1, 2, 3, 4, 5, 6, 7, 8, 0] rfl ?_
        refine EvW.less [0, 1, 2, 3, 4, 5, 7, 8] (lv' := [(0, .ref 10), (1, .int x1), (2, .int x2), (3, .int x3), (4, .int x4), (5, .int x5), (7, .int 0), (8, .int 0)]) rfl ?_
        exact h11
      · have h12 := h8.2 c10
        refine ev_ldc2 dX7_mean_58 co_7_214 ?_
        exact ev_lreturn dX7_mean_61 rfl rfl rfl ⟨rfl, h12⟩
    · have h9 := h3.2 c7
      refine ev_iload_n dX7_mean_14 3 rfl ?_
      refine ev_iconst (v := 0) dX7_mean_15 rfl ?_
      refine ev_ldcw dX7_mean_16 co_7_262 ?_
      refine e2_callS (w := .int (bi (inB x3 (0 : Int32) (99999 : Int32)))) (μ1 := μ) (as := [.int x3, .int 0, .int 99999]) (st := []) ok_X7_isWithin sv_X7_isWithin ml_7_86 dX7_mean_19 rfl rfl (Nat.le_of_ble_eq_true rfl) (Nat.le_of_ble_eq_true rfl) (by decide) (ct_X7_isWithin (x3) (0) (99999) μ) ?_
      refine ev_ifeq_bi (tgt := 50) dX7_mean_22 rfl (fun c13 => ?_) (fun c13 => ?_)
      · have h14 := h9.1 c13
        refine ev_iconst (v := 0) dX7_mean_50 rfl ?_
        refine ev_istore (lv' := [(0, .ref 10), (1, .int x1), (2, .int x2), (3, .int x3), (4, .int x4), (5, .int x5), (6, .int 0)]) dX7_mean_51 (by decide) [1, 2, 3, 4, 5, 6, 0] rfl ?_
        refine ev_iload dX7_mean_53 6 rfl ?_
        refine ev_if_ne (tgt := 62) dX7_mean_55 rfl (fun c16 => ?_) (fun c16 => ?_)
        · have h17 := h14.1 c16
          refine ev_iconst (v := 0) dX7_mean_62 rfl ?_
          refine ev_istore (lv' := [(0, .ref 10), (1, .int x1), (2, .int x2), (3, .int x3), (4, .int x4), (5, .int x5), (6, .int 0), (7, .int 0)]) dX7_mean_63 (by decide) [1, 2, 3, 4, 5, 6, 7, 0] rfl ?_
          refine ev_iconst (v := 0) dX7_mean_65 rfl ?_
          refine ev_istore (lv' := [(0, .ref 10), (1, .int x1), (2, .int x2), (3, .int x3), (4, .int x4), (5, .int x5), (6, .int 0), (7, .int 0), (8, .int 0)]) dX7_mean_66 (by decide) [1, 2, 3, 4, 5, 6, 7, 8, 0] rfl ?_
          refine EvW.less [0, 1, 2, 3, 4, 5, 7, 8] (lv' := [(0, .ref 10), (1, .int x1), (2, .int x2), (3, .int x3), (4, .int x4), (5, .int x5), (7, .int 0), (8, .int 0)]) rfl ?_
          exact h17
        · have h18 := h14.2 c16
          refine ev_ldc2 dX7_mean_58 co_7_214 ?_
          exact ev_lreturn dX7_mean_61 rfl rfl rfl ⟨rfl, h18⟩
      · have h15 := h9.2 c13
        refine ev_iload dX7_mean_25 4 rfl ?_
        refine ev_iconst (v := 1) dX7_mean_27 rfl ?_
        refine ev_bipush (v := 30) dX7_mean_28 rfl ?_
        refine e2_callS (w := .int (bi (inB x4 (1 : Int32) (30 : Int32)))) (μ1 := μ) (as := [.int x4, .int 1, .int 30]) (st := []) ok_X7_isWithin sv_X7_isWithin ml_7_86 dX7_mean_30 rfl rfl (Nat.le_of_ble_eq_true rfl) (Nat.le_of_ble_eq_true rfl) (by decide) (ct_X7_isWithin (x4) (1) (30) μ) ?_
        refine ev_ifeq_bi (tgt := 50) dX7_mean_33 rfl (fun c19 => ?_) (fun c19 => ?_)
        · have h20 := h15.1 c19
          refine ev_iconst (v := 0) dX7_mean_50 rfl ?_
          refine ev_istore (lv' := [(0, .ref 10), (1, .int x1), (2, .int x2), (3, .int x3), (4, .int x4), (5, .int x5), (6, .int 0)]) dX7_mean_51 (by decide) [1, 2, 3, 4, 5, 6, 0] rfl ?_
          refine ev_iload dX7_mean_53 6 rfl ?_
          refine ev_if_ne (tgt := 62) dX7_mean_55 rfl (fun c22 => ?_) (fun c22 => ?_)
          · have h23 := h20.1 c22
            refine ev_iconst (v := 0) dX7_mean_62 rfl ?_
            refine ev_istore (lv' := [(0, .ref 10), (1, .int x1), (2, .int x2), (3, .int x3), (4, .int x4), (5, .int x5), (6, .int 0), (7, .int 0)]) dX7_mean_63 (by decide) [1, 2, 3, 4, 5, 6, 7, 0] rfl ?_
            refine ev_iconst (v := 0) dX7_mean_65 rfl ?_
            refine ev_istore (lv' := [(0, .ref 10), (1, .int x1), (2, .int x2), (3, .int x3), (4, .int x4), (5, .int x5), (6, .int 0), (7, .int 0), (8, .int 0)]) dX7_mean_66 (by decide) [1, 2, 3, 4, 5, 6, 7, 8, 0] rfl ?_
            refine EvW.less [0, 1, 2, 3, 4, 5, 7, 8] (lv' := [(0, .ref 10), (1, .int x1), (2, .int x2), (3, .int x3), (4, .int x4), (5, .int x5), (7, .int 0), (8, .int 0)]) rfl ?_
            exact h23
          · have h24 := h20.2 c22
            refine ev_ldc2 dX7_mean_58 co_7_214 ?_
            exact ev_lreturn dX7_mean_61 rfl rfl rfl ⟨rfl, h24⟩
        · have h21 := h15.2 c19
          refine ev_iload dX7_mean_36 5 rfl ?_
          refine ev_iconst (v := 0) dX7_mean_38 rfl ?_
          refine ev_iconst (v := 1) dX7_mean_39 rfl ?_
          refine e2_callS (w := .int (bi (inB x5 (0 : Int32) (1 : Int32)))) (μ1 := μ) (as := [.int x5, .int 0, .int 1]) (st := []) ok_X7_isWithin sv_X7_isWithin ml_7_86 dX7_mean_40 rfl rfl (Nat.le_of_ble_eq_true rfl) (Nat.le_of_ble_eq_true rfl) (by decide) (ct_X7_isWithin (x5) (0) (1) μ) ?_
          refine ev_ifeq_bi (tgt := 50) dX7_mean_43 rfl (fun c25 => ?_) (fun c25 => ?_)
          · have h26 := h21.1 c25
            refine ev_iconst (v := 0) dX7_mean_50 rfl ?_
            refine ev_istore (lv' := [(0, .ref 10), (1, .int x1), (2, .int x2), (3, .int x3), (4, .int x4), (5, .int x5), (6, .int 0)]) dX7_mean_51 (by decide) [1, 2, 3, 4, 5, 6, 0] rfl ?_
            refine ev_iload dX7_mean_53 6 rfl ?_
            refine ev_if_ne (tgt := 62) dX7_mean_55 rfl (fun c28 => ?_) (fun c28 => ?_)
            · have h29 := h26.1 c28
              refine ev_iconst (v := 0) dX7_mean_62 rfl ?_
              refine ev_istore (lv' := [(0, .ref 10), (1, .int x1), (2, .int x2), (3, .int x3), (4, .int x4), (5, .int x5), (6, .int 0), (7, .int 0)]) dX7_mean_63 (by decide) [1, 2, 3, 4, 5, 6, 7, 0] rfl ?_
              refine ev_iconst (v := 0) dX7_mean_65 rfl ?_
              refine ev_istore (lv' := [(0, .ref 10), (1, .int x1), (2, .int x2), (3, .int x3), (4, .int x4), (5, .int x5), (6, .int 0), (7, .int 0), (8, .int 0)]) dX7_mean_66 (by decide) [1, 2, 3, 4, 5, 6, 7, 8, 0] rfl ?_
              refine EvW.less [0, 1, 2, 3, 4, 5, 7, 8] (lv' := [(0, .ref 10), (1, .int x1), (2, .int x2), (3, .int x3), (4, .int x4), (5, .int x5), (7, .int 0), (8, .int 0)]) rfl ?_
              exact h29
            · have h30 := h26.2 c28
              refine ev_ldc2 dX7_mean_58 co_7_214 ?_
              exact ev_lreturn dX7_mean_61 rfl rfl rfl ⟨rfl, h30⟩
          · have h27 := h21.2 c25
            refine ev_iconst (v := 1) dX7_mean_46 rfl ?_
            refine ev_goto (tgt := 51) dX7_mean_47 rfl ?_
            refine ev_istore (lv' := [(0, .ref 10), (1, .int x1), (2, .int x2), (3, .int x3), (4, .int x4), (5, .int x5), (6, .int 1)]) dX7_mean_51 (by decide) [1, 2, 3, 4, 5, 6, 0] rfl ?_
            refine ev_iload dX7_mean_53 6 rfl ?_
            refine ev_if_ne (tgt := 62) dX7_mean_55 rfl (fun c31 => ?_) (fun c31 => ?_)
            · have h32 := h27.1 c31
              refine ev_iconst (v := 0) dX7_mean_62 rfl ?_
              refine ev_istore (lv' := [(0, .ref 10), (1, .int x1), (2, .int x2), (3, .int x3), (4, .int x4), (5, .int x5), (6, .int 1), (7, .int 0)]) dX7_mean_63 (by decide) [1, 2, 3, 4, 5, 6, 7, 0] rfl ?_
              refine ev_iconst (v := 0) dX7_mean_65 rfl ?_
              refine ev_istore (lv' := [(0, .ref 10), (1, .int x1), (2, .int x2), (3, .int x3), (4, .int x4), (5, .int x5), (6, .int 1), (7, .int 0), (8, .int 0)]) dX7_mean_66 (by decide) [1, 2, 3, 4, 5, 6, 7, 8, 0] rfl ?_
              refine EvW.less [0, 1, 2, 3, 4, 5, 7, 8] (lv' := [(0, .ref 10), (1, .int x1), (2, .int x2), (3, .int x3), (4, .int x4), (5, .int x5), (7, .int 0), (8, .int 0)]) rfl ?_
              exact h32
            · have h33 := h27.2 c31
              refine ev_ldc2 dX7_mean_58 co_7_214 ?_
              exact ev_lreturn dX7_mean_61 rfl rfl rfl ⟨rfl, h33⟩
theorem sg_X7_mean_68 {G : GW} {K : Option Value → Mem → Prop} {μ : Mem} {x1 x2 x3 x4 x5 x7 x8 : Int32}  (h : ((x4 ≤ x8) → ((¬ x5 = 0) → (¬ (gcF 64 x4 x7) = 0) ∧ K (some (.long (Int32.toInt64 (x4 / (gcF 64 x4 x7))))) μ) ∧ ((x5 = 0) → (¬ (gcF 64 x4 x7) = 0) ∧ K (some (.long (Int32.toInt64 (x7 / (gcF 64 x4 x7))))) μ)) ∧ ((¬ (x4 ≤ x8)) → (∃ n, n ≤ 7 ∧ μ 10 9 = nI n) ∧ (vp_in x1 7 ∧ vp_in x2 7 ∧ goOK (goX μ) (drwV (fun h => μ (43 + h) 8) (x3 + x8) (μ 10 9).toNatClampNeg)) ∧ ∀ (z15 : Int32) (μ16 : Mem), (soonR μ (drwV (fun h => μ (43 + h) 8) (x3 + x8) (μ 10 9).toNatClampNeg) x1.toNatClampNeg x2.toNatClampNeg z15 μ16) → Ev2 G mX7_mean 7 68 [(0, .ref 10), (1, .int x1), (2, .int x2), (3, .int x3), (4, .int x4), (5, .int x5), (7, .int (x7 + z15)), (8, .int (x8 + 1))] [] μ16 K)) : Ev2 G mX7_mean 7 68 [(0, .ref 10), (1, .int x1), (2, .int x2), (3, .int x3), (4, .int x4), (5, .int x5), (7, .int x7), (8, .int x8)] [] μ K := by
  refine ev_iload dX7_mean_68 7 rfl ?_
  refine ev_iload dX7_mean_70 4 rfl ?_
  refine ev_icmp_ge (tgt := 100) dX7_mean_72 rfl (fun c1 => ?_) (fun c1 => ?_)
  · have h2 := h.1 c1
    refine ev_iload dX7_mean_100 4 rfl ?_
    refine ev_iload dX7_mean_102 6 rfl ?_
    refine e2_callS (w := .int (gcF 64 x4 x7)) (μ1 := μ) (as := [.int x4, .int x7]) (st := []) ok_X7_greatestCommon sv_X7_greatestCommon ml_7_266 dX7_mean_104 rfl rfl (Nat.le_of_ble_eq_true rfl) (Nat.le_of_ble_eq_true rfl) (by decide) (ct_X7_greatestCommon (x4) (x7) μ) ?_
    refine ev_istore (lv' := [(0, .ref 10), (1, .int x1), (2, .int x2), (3, .int x3), (4, .int x4), (5, .int x5), (7, .int x7), (8, .int (gcF 64 x4 x7))]) dX7_mean_107 (by decide) [1, 2, 3, 4, 5, 6, 7, 0] rfl ?_
    refine ev_iload dX7_mean_109 5 rfl ?_
    refine ev_if_ne (tgt := 123) dX7_mean_111 rfl (fun c4 => ?_) (fun c4 => ?_)
    · have h5 := h2.1 c4
      refine ev_iload dX7_mean_123 4 rfl ?_
      refine ev_iload dX7_mean_125 7 rfl ?_
      have p7 := h5.1
      have h8 := h5.2
      refine ev_idiv dX7_mean_127 p7 ?_
      refine ev_i2l dX7_mean_128 ?_
      exact ev_lreturn dX7_mean_129 rfl rfl rfl ⟨rfl, h8⟩
    · have h6 := h2.2 c4
      refine ev_iload dX7_mean_114 6 rfl ?_
      refine ev_iload dX7_mean_116 7 rfl ?_
      have p9 := h6.1
      have h10 := h6.2
      refine ev_idiv dX7_mean_118 p9 ?_
      refine ev_i2l dX7_mean_119 ?_
      refine ev_goto (tgt := 129) dX7_mean_120 rfl ?_
      exact ev_lreturn dX7_mean_129 rfl rfl rfl ⟨rfl, h10⟩
  · have h3 := h.2 c1
    refine ev_iload dX7_mean_75 6 rfl ?_
    refine ev_aload_n dX7_mean_77 0 rfl (by decide) ?_
    refine ev_aload_n dX7_mean_78 0 rfl (by decide) ?_
    refine ev_iload_n dX7_mean_79 3 rfl ?_
    refine ev_iload dX7_mean_80 7 rfl ?_
    refine ev_iadd dX7_mean_82 ?_
    have p11 := h3.1
    have h12 := h3.2
    refine e2_callV (w := .int (drwV (fun h => μ (43 + h) 8) (x3 + x8) (μ 10 9).toNatClampNeg)) (μ1 := μ) (a := 10) (as := [.int (x3 + x8)]) (st := [.ref 10, .int x7]) ok_X7_livingBy vi_X7_livingBy ml_7_263 hcl_7 kd_10 dX7_mean_83 rfl rfl (Nat.le_of_ble_eq_true rfl) (Nat.le_of_ble_eq_true rfl) (by decide) (ct_X7_livingBy ((x3 + x8)) μ p11) ?_
    refine ev_iload_n dX7_mean_86 1 rfl ?_
    refine ev_iload_n dX7_mean_87 2 rfl ?_
    have p13 := h12.1
    have h14 := h12.2
    refine e2_callVr (Rl := fun z15 μ16 => soonR μ (drwV (fun h => μ (43 + h) 8) (x3 + x8) (μ 10 9).toNatClampNeg) x1.toNatClampNeg x2.toNatClampNeg z15 μ16) (a := 10) (as := [.int (drwV (fun h => μ (43 + h) 8) (x3 + x8) (μ 10 9).toNatClampNeg), .int x1, .int x2]) (st := [.int x7]) ok_X7_soonWith vi_X7_soonWith ml_7_179 hcl_7 kd_10 dX7_mean_88 rfl rfl (Nat.le_of_ble_eq_true rfl) (Nat.le_of_ble_eq_true rfl) (by decide) (ct_X7_soonWith ((drwV (fun h => μ (43 + h) 8) (x3 + x8) (μ 10 9).toNatClampNeg)) (x1) (x2) μ p13) (fun z15 μ16 r17 => ?_)
    have h18 := h14 z15 μ16 r17
    refine ev_iadd dX7_mean_91 ?_
    refine ev_istore (lv' := [(0, .ref 10), (1, .int x1), (2, .int x2), (3, .int x3), (4, .int x4), (5, .int x5), (7, .int (x7 + z15)), (8, .int x8)]) dX7_mean_92 (by decide) [1, 2, 3, 4, 5, 6, 0, 7] rfl ?_
    refine ev_iinc (v := (x8 + 1)) (lv' := [(0, .ref 10), (1, .int x1), (2, .int x2), (3, .int x3), (4, .int x4), (5, .int x5), (7, .int (x7 + z15)), (8, .int (x8 + 1))]) dX7_mean_94 7 rfl rfl (by decide) [1, 2, 3, 4, 5, 6, 7, 0] rfl ?_
    refine ev_goto (tgt := 68) dX7_mean_97 rfl ?_
    exact h18
theorem lp_X7_mean {G : GW} {α μ0 : Mem} (hf : WF α) {a b N : Nat} (ha : a < 7) (hb : b < 7) (hN : N ≤ 30) {seed x5 : Int32} : ∀ j i (μ : Mem), i + j = N → VX α μ → keepM μ0 μ → Ev2 G mX7_mean 7 68 [(0, .ref 10), (1, .int (nI a)), (2, .int (nI b)), (3, .int seed), (4, .int (nI N)), (5, .int x5), (7, .int (meanA α a b seed i)), (8, .int (nI i))] [] μ (fun v μ' => v = some (.long (if x5 = 0 then Int32.toInt64 (meanA α a b seed N / gcF 64 (nI N) (meanA α a b seed N)) else Int32.toInt64 (nI N / gcF 64 (nI N) (meanA α a b seed N)))) ∧ VX α μ' ∧ keepM μ0 μ') := by
  intro j
  induction j with
  | zero =>
    intro i μ hi h hm
    obtain rfl : i = N := by omega
    refine sg_X7_mean_68 ⟨fun _ => ⟨fun c => ⟨gcF_nz _ _ _, ?_, h, hm⟩, fun c => ⟨gcF_nz _ _ _, ?_, h, hm⟩⟩, fun c => absurd (nI_le (Nat.le_refl _) (by omega)) c⟩
    · rw [if_neg c]
    · rw [if_pos c]
  | succ j ih =>
    intro i μ hi h hm
    refine sg_X7_mean_68 ⟨fun c => absurd c (nI_ge (by omega) (by omega)), fun _ => ⟨VX.n hf h.1, ?_⟩⟩
    have e : (μ 10 9).toNatClampNeg = aN α := by rw [h.1.1.1]; rfl
    rw [e, drwV_congr (f := fun h => μ (43 + h) 8) (g := fun x => saidA α 2 x) _ (fun i hi => h.2 i hi 2 (by omega))]
    have hs : setOK (aN α) (drwV (fun x => saidA α 2 x) (seed + nI i) (aN α)) := drwV_ok _ hf.1.1.2
    refine ⟨⟨vp_nI ha (by omega), vp_nI hb (by omega), h.go hf hs⟩, fun x ν hx => ?_⟩
    rw [ix_nI (i := a) (by omega), ix_nI (i := b) (by omega)] at hx
    obtain ⟨ex, h1, k1, -⟩ := soon_shown hf h hs hx
    have hh := ih (i + 1) ν (by omega) h1 (hm.tr k1)
    rw [meanA_succ, ← ex, ← nI_1] at hh
    exact hh
theorem pb_X7_mean {G : GW} {α μ : Mem} (hf : WF α) (h : VX α μ) (x1 x2 x3 x4 x5 : Int32) : pubX G mX7_mean 7 [(0, .ref 10), (1, .int x1), (2, .int x2), (3, .int x3), (4, .int x4), (5, .int x5)] α μ (.long (sp_mean α x1 x2 x3 x4 x5)) α := by
  have no : askB x1 x2 x3 x4 x5 = false → some (Value.long (-4611686018427387904)) = some (Value.long (sp_mean α x1 x2 x3 x4 x5)) ∧ VX α μ ∧ keepM μ μ := fun q => by
    unfold sp_mean
    rw [if_neg (by rw [q]; decide)]
    exact ⟨rfl, h, keepM.rf μ⟩
  refine sg_X7_mean_0 ⟨fun c => ⟨fun q => absurd rfl q, fun _ => no (by unfold askB; rw [c]; rfl)⟩, fun c1 => ⟨fun c => ⟨fun q => absurd rfl q, fun _ => no (by unfold askB; rw [c1, c]; rfl)⟩, fun c2 => ⟨fun c => ⟨fun q => absurd rfl q, fun _ => no (by unfold askB; rw [c1, c2, c]; rfl)⟩, fun c3 => ⟨fun c => ⟨fun q => absurd rfl q, fun _ => no (by unfold askB; rw [c1, c2, c3, c]; rfl)⟩, fun c4 => ⟨fun c => ⟨fun q => absurd rfl q, fun _ => no (by unfold askB; rw [c1, c2, c3, c4, c]; rfl)⟩, fun c5 => ⟨fun _ => ?_, fun q => absurd q (by decide)⟩⟩⟩⟩⟩⟩
  have ca : askB x1 x2 x3 x4 x5 = true := by
    unfold askB
    rw [c1, c2, c3, c4, c5]
    rfl
  unfold sp_mean
  rw [if_pos ca]
  obtain ⟨a, ha, rfl⟩ := inB_nI (m := 6) (by omega) c1
  obtain ⟨b, hb, rfl⟩ := inB_nI (m := 6) (by omega) c2
  obtain ⟨N, hN, hN', rfl⟩ := inB_mid (lo := 1) (hi := 30) (by omega) (by omega) c4
  rw [ix_nI (i := a) (by omega), ix_nI (i := b) (by omega), ix_nI (i := N) (by omega)]
  have hh := lp_X7_mean (G := G) hf (a := a) (b := b) (N := N) (by omega) (by omega) hN' (seed := x3) (x5 := x5) N 0 μ (by omega) h (keepM.rf μ)
  rw [meanA] at hh
  exact hh
