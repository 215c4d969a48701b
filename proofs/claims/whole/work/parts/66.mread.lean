/-! ===== the reference reads an E ===== -/
def isSgM (μ : Mem) (c : Int32) : Bool := decide (μ 82 18 = 4) && decide (μ 82 19 = c)
def isKyM (μ : Mem) (c : Int32) : Bool := decide (μ 82 18 = 3) && decide (μ 82 19 = c)
def emM (μ : Mem) (v : Int32) : Mem := mset (mset μ 93 (μ 82 28 + μ 82 29).toNatClampNeg v) 82 29 (μ 82 29 + 1)
def emP (μ : Mem) : Prop := vp_in (μ 82 28 + μ 82 29) 2880
def rkM (x : Int32) : Int32 := if x = 10 then 1 else if x = 11 then 2 else if x = 12 then 3 else if x = 13 then 4 else if x = 14 then 4 else if x = 15 then 5 else if x = 16 then 5 else if x = 17 then 6 else if x = 18 then 7 else 0
def awM (μ : Mem) (v : Int32) : Mem := mset (mset μ 97 (μ 82 24).toNatClampNeg v) 82 24 (μ 82 24 + 1)
def awP (μ : Mem) : Prop := vp_in (μ 82 24) 170
/-- one that waits is done -/
def poM (μ : Mem) (k : Nat) : Mem := emM (mset (mset μ 82 24 (μ 82 24 - 1)) 82 25 (μ 82 25 - (if μ 97 k = 12 ∨ μ 97 k = 18 then 1 else 0))) (μ 97 k)
def daF (r : Int32) : Nat → Mem → Mem
  | 0, μ => μ
  | k + 1, μ => if μ 97 k = 30 ∨ rkM (μ 97 k) < r then μ else daF r k (poM μ k)
def daM (μ : Mem) (r : Int32) : Mem := daF r (μ 82 24).toNatClampNeg μ
def daP (μ : Mem) : Prop := ∃ n b c, n ≤ 170 ∧ b + c + n ≤ 2880 ∧ μ 82 24 = nI n ∧ μ 82 28 = nI b ∧ μ 82 29 = nI c
theorem sg_X8_isSign_0 {G : GW} {K : Option Value → Mem → Prop} {μ : Mem} {x1 : Int32}  (h : ((¬ (μ 82 18) = 4) → K (some (.int 0)) μ) ∧ (((μ 82 18) = 4) → ((¬ (μ 82 19) = x1) → K (some (.int 0)) μ) ∧ (((μ 82 19) = x1) → K (some (.int 1)) μ))) : Ev2 G mX8_isSign 1 0 [(0, .ref 82), (1, .int x1)] [] μ K := by
  refine ev_aload_n dX8_isSign_0 0 rfl (by decide) ?_
  refine ev_getI' (v := (μ 82 18)) fl_8_91 rfl kd_82 rfl dX8_isSign_1 ?_
  refine ev_iconst (v := 4) dX8_isSign_4 rfl ?_
  refine ev_icmp_ne (tgt := 20) dX8_isSign_5 rfl (fun c1 => ?_) (fun c1 => ?_)
  · have h2 := h.1 c1
    refine ev_iconst (v := 0) dX8_isSign_20 rfl ?_
    exact ev_ireturn dX8_isSign_21 rfl rfl rfl rfl ⟨rfl, h2⟩
  · have h3 := h.2 c1
    refine ev_aload_n dX8_isSign_8 0 rfl (by decide) ?_
    refine ev_getI' (v := (μ 82 19)) fl_8_104 rfl kd_82 rfl dX8_isSign_9 ?_
    refine ev_iload_n dX8_isSign_12 1 rfl ?_
    refine ev_icmp_ne (tgt := 20) dX8_isSign_13 rfl (fun c4 => ?_) (fun c4 => ?_)
    · have h5 := h3.1 c4
      refine ev_iconst (v := 0) dX8_isSign_20 rfl ?_
      exact ev_ireturn dX8_isSign_21 rfl rfl rfl rfl ⟨rfl, h5⟩
    · have h6 := h3.2 c4
      refine ev_iconst (v := 1) dX8_isSign_16 rfl ?_
      refine ev_goto (tgt := 21) dX8_isSign_17 rfl ?_
      exact ev_ireturn dX8_isSign_21 rfl rfl rfl rfl ⟨rfl, h6⟩
theorem ct_X8_isSign {G : GW} (x1 : Int32) (μ : Mem) : Ev2 G mX8_isSign 1 0 [(0, .ref 82), (1, .int x1)] [] μ (fun v μ' => v = some (.int (bi (isSgM μ x1))) ∧ μ' = μ) := by
  unfold isSgM
  refine sg_X8_isSign_0 ⟨fun c => ⟨by rw [decide_eq_false c]; rfl, rfl⟩, fun c => ⟨fun d => ⟨by rw [decide_eq_false d, Bool.and_false]; rfl, rfl⟩, fun d => ⟨by rw [decide_eq_true c, decide_eq_true d]; rfl, rfl⟩⟩⟩
theorem sg_X8_isKey_0 {G : GW} {K : Option Value → Mem → Prop} {μ : Mem} {x1 : Int32}  (h : ((¬ (μ 82 18) = 3) → K (some (.int 0)) μ) ∧ (((μ 82 18) = 3) → ((¬ (μ 82 19) = x1) → K (some (.int 0)) μ) ∧ (((μ 82 19) = x1) → K (some (.int 1)) μ))) : Ev2 G mX8_isKey 1 0 [(0, .ref 82), (1, .int x1)] [] μ K := by
  refine ev_aload_n dX8_isKey_0 0 rfl (by decide) ?_
  refine ev_getI' (v := (μ 82 18)) fl_8_91 rfl kd_82 rfl dX8_isKey_1 ?_
  refine ev_iconst (v := 3) dX8_isKey_4 rfl ?_
  refine ev_icmp_ne (tgt := 20) dX8_isKey_5 rfl (fun c1 => ?_) (fun c1 => ?_)
  · have h2 := h.1 c1
    refine ev_iconst (v := 0) dX8_isKey_20 rfl ?_
    exact ev_ireturn dX8_isKey_21 rfl rfl rfl rfl ⟨rfl, h2⟩
  · have h3 := h.2 c1
    refine ev_aload_n dX8_isKey_8 0 rfl (by decide) ?_
    refine ev_getI' (v := (μ 82 19)) fl_8_104 rfl kd_82 rfl dX8_isKey_9 ?_
    refine ev_iload_n dX8_isKey_12 1 rfl ?_
    refine ev_icmp_ne (tgt := 20) dX8_isKey_13 rfl (fun c4 => ?_) (fun c4 => ?_)
    · have h5 := h3.1 c4
      refine ev_iconst (v := 0) dX8_isKey_20 rfl ?_
      exact ev_ireturn dX8_isKey_21 rfl rfl rfl rfl ⟨rfl, h5⟩
    · have h6 := h3.2 c4
      refine ev_iconst (v := 1) dX8_isKey_16 rfl ?_
      refine ev_goto (tgt := 21) dX8_isKey_17 rfl ?_
      exact ev_ireturn dX8_isKey_21 rfl rfl rfl rfl ⟨rfl, h6⟩
theorem ct_X8_isKey {G : GW} (x1 : Int32) (μ : Mem) : Ev2 G mX8_isKey 1 0 [(0, .ref 82), (1, .int x1)] [] μ (fun v μ' => v = some (.int (bi (isKyM μ x1))) ∧ μ' = μ) := by
  unfold isKyM
  refine sg_X8_isKey_0 ⟨fun c => ⟨by rw [decide_eq_false c]; rfl, rfl⟩, fun c => ⟨fun d => ⟨by rw [decide_eq_false d, Bool.and_false]; rfl, rfl⟩, fun d => ⟨by rw [decide_eq_true c, decide_eq_true d]; rfl, rfl⟩⟩⟩
theorem sg_X8_emit_0 {G : GW} {K : Option Value → Mem → Prop} {μ : Mem} {x1 : Int32}  (h : (vp_in ((μ 82 28) + (μ 82 29)) 2880) ∧ K none (mset (mset μ 93 ((μ 82 28) + (μ 82 29)).toNatClampNeg x1) 82 29 ((μ 82 29) + 1))) : Ev2 G mX8_emit 1 0 [(0, .ref 82), (1, .int x1)] [] μ K := by
  refine ev_aload_n dX8_emit_0 0 rfl (by decide) ?_
  refine ev_getR' fl_8_117 rfl kd_82 rf_82_15 dX8_emit_1 ?_
  refine ev_aload_n dX8_emit_4 0 rfl (by decide) ?_
  refine ev_getI' (v := (μ 82 28)) fl_8_120 rfl kd_82 rfl dX8_emit_5 ?_
  refine ev_aload_n dX8_emit_8 0 rfl (by decide) ?_
  refine ev_getI' (v := (μ 82 29)) fl_8_123 rfl kd_82 rfl dX8_emit_9 ?_
  refine ev_iadd dX8_emit_12 ?_
  refine ev_iload_n dX8_emit_13 1 rfl ?_
  have p1 := h.1
  have h2 := h.2
  refine ev_iastore' (j := ((μ 82 28) + (μ 82 29)).toNatClampNeg) kd_93 ln_93 p1 rfl dX8_emit_14 ?_
  refine ev_aload_n dX8_emit_15 0 rfl (by decide) ?_
  refine ev_dup dX8_emit_16 rfl ?_
  refine ev_getI' (v := (μ 82 29)) fl_8_123 rfl kd_82 rfl dX8_emit_17 ?_
  refine ev_iconst (v := 1) dX8_emit_20 rfl ?_
  refine ev_iadd dX8_emit_21 ?_
  refine ev_putI fl_8_123 ⟨rfl, rfl, rfl⟩ (fun r hr => by cases hr; rfl) kd_82 dX8_emit_22 ?_
  exact ev_return dX8_emit_25 rfl rfl rfl ⟨rfl, h2⟩
theorem ct_X8_emit {G : GW} (x1 : Int32) (μ : Mem) (hp : emP μ) : Ev2 G mX8_emit 1 0 [(0, .ref 82), (1, .int x1)] [] μ (fun v μ' => v = none ∧ μ' = emM μ x1) := sg_X8_emit_0 ⟨hp, rfl, rfl⟩
theorem sg_X8_rank_0 {G : GW} {K : Option Value → Mem → Prop} {μ : Mem} {x0 : Int32}  (h : ((¬ x0 = 10) → ((¬ x0 = 11) → ((¬ x0 = 12) → ((x0 = 13) → K (some (.int 4)) μ) ∧ ((¬ (x0 = 13)) → ((¬ x0 = 14) → ((x0 = 15) → K (some (.int 5)) μ) ∧ ((¬ (x0 = 15)) → ((¬ x0 = 16) → ((¬ x0 = 17) → ((¬ x0 = 18) → K (some (.int 0)) μ) ∧ ((x0 = 18) → K (some (.int 7)) μ)) ∧ ((x0 = 17) → K (some (.int 6)) μ)) ∧ ((x0 = 16) → K (some (.int 5)) μ))) ∧ ((x0 = 14) → K (some (.int 4)) μ))) ∧ ((x0 = 12) → K (some (.int 3)) μ)) ∧ ((x0 = 11) → K (some (.int 2)) μ)) ∧ ((x0 = 10) → K (some (.int 1)) μ)) : Ev2 G mX8_rank 1 0 [(0, .int x0)] [] μ K := by
  refine ev_iload_n dX8_rank_0 0 rfl ?_
  refine ev_bipush (v := 10) dX8_rank_1 rfl ?_
  refine ev_icmp_ne (tgt := 10) dX8_rank_3 rfl (fun c1 => ?_) (fun c1 => ?_)
  · have h2 := h.1 c1
    refine ev_iload_n dX8_rank_10 0 rfl ?_
    refine ev_bipush (v := 11) dX8_rank_11 rfl ?_
    refine ev_icmp_ne (tgt := 20) dX8_rank_13 rfl (fun c4 => ?_) (fun c4 => ?_)
    · have h5 := h2.1 c4
      refine ev_iload_n dX8_rank_20 0 rfl ?_
      refine ev_bipush (v := 12) dX8_rank_21 rfl ?_
      refine ev_icmp_ne (tgt := 30) dX8_rank_23 rfl (fun c7 => ?_) (fun c7 => ?_)
      · have h8 := h5.1 c7
        refine ev_iload_n dX8_rank_30 0 rfl ?_
        refine ev_bipush (v := 13) dX8_rank_31 rfl ?_
        refine ev_icmp_eq (tgt := 42) dX8_rank_33 rfl (fun c10 => ?_) (fun c10 => ?_)
        · have h11 := h8.1 c10
          refine ev_iconst (v := 4) dX8_rank_42 rfl ?_
          refine ev_goto (tgt := 85) dX8_rank_43 rfl ?_
          exact ev_ireturn dX8_rank_85 rfl True.intro rfl rfl ⟨rfl, h11⟩
        · have h12 := h8.2 c10
          refine ev_iload_n dX8_rank_36 0 rfl ?_
          refine ev_bipush (v := 14) dX8_rank_37 rfl ?_
          refine ev_icmp_ne (tgt := 46) dX8_rank_39 rfl (fun c13 => ?_) (fun c13 => ?_)
          · have h14 := h12.1 c13
            refine ev_iload_n dX8_rank_46 0 rfl ?_
            refine ev_bipush (v := 15) dX8_rank_47 rfl ?_
            refine ev_icmp_eq (tgt := 58) dX8_rank_49 rfl (fun c16 => ?_) (fun c16 => ?_)
            · have h17 := h14.1 c16
              refine ev_iconst (v := 5) dX8_rank_58 rfl ?_
              refine ev_goto (tgt := 85) dX8_rank_59 rfl ?_
              exact ev_ireturn dX8_rank_85 rfl True.intro rfl rfl ⟨rfl, h17⟩
            · have h18 := h14.2 c16
              refine ev_iload_n dX8_rank_52 0 rfl ?_
              refine ev_bipush (v := 16) dX8_rank_53 rfl ?_
              refine ev_icmp_ne (tgt := 62) dX8_rank_55 rfl (fun c19 => ?_) (fun c19 => ?_)
              · have h20 := h18.1 c19
                refine ev_iload_n dX8_rank_62 0 rfl ?_
                refine ev_bipush (v := 17) dX8_rank_63 rfl ?_
                refine ev_icmp_ne (tgt := 73) dX8_rank_65 rfl (fun c22 => ?_) (fun c22 => ?_)
                · have h23 := h20.1 c22
                  refine ev_iload_n dX8_rank_73 0 rfl ?_
                  refine ev_bipush (v := 18) dX8_rank_74 rfl ?_
                  refine ev_icmp_ne (tgt := 84) dX8_rank_76 rfl (fun c25 => ?_) (fun c25 => ?_)
                  · have h26 := h23.1 c25
                    refine ev_iconst (v := 0) dX8_rank_84 rfl ?_
                    exact ev_ireturn dX8_rank_85 rfl True.intro rfl rfl ⟨rfl, h26⟩
                  · have h27 := h23.2 c25
                    refine ev_bipush (v := 7) dX8_rank_79 rfl ?_
                    refine ev_goto (tgt := 85) dX8_rank_81 rfl ?_
                    exact ev_ireturn dX8_rank_85 rfl True.intro rfl rfl ⟨rfl, h27⟩
                · have h24 := h20.2 c22
                  refine ev_bipush (v := 6) dX8_rank_68 rfl ?_
                  refine ev_goto (tgt := 85) dX8_rank_70 rfl ?_
                  exact ev_ireturn dX8_rank_85 rfl True.intro rfl rfl ⟨rfl, h24⟩
              · have h21 := h18.2 c19
                refine ev_iconst (v := 5) dX8_rank_58 rfl ?_
                refine ev_goto (tgt := 85) dX8_rank_59 rfl ?_
                exact ev_ireturn dX8_rank_85 rfl True.intro rfl rfl ⟨rfl, h21⟩
          · have h15 := h12.2 c13
            refine ev_iconst (v := 4) dX8_rank_42 rfl ?_
            refine ev_goto (tgt := 85) dX8_rank_43 rfl ?_
            exact ev_ireturn dX8_rank_85 rfl True.intro rfl rfl ⟨rfl, h15⟩
      · have h9 := h5.2 c7
        refine ev_iconst (v := 3) dX8_rank_26 rfl ?_
        refine ev_goto (tgt := 85) dX8_rank_27 rfl ?_
        exact ev_ireturn dX8_rank_85 rfl True.intro rfl rfl ⟨rfl, h9⟩
    · have h6 := h2.2 c4
      refine ev_iconst (v := 2) dX8_rank_16 rfl ?_
      refine ev_goto (tgt := 85) dX8_rank_17 rfl ?_
      exact ev_ireturn dX8_rank_85 rfl True.intro rfl rfl ⟨rfl, h6⟩
  · have h3 := h.2 c1
    refine ev_iconst (v := 1) dX8_rank_6 rfl ?_
    refine ev_goto (tgt := 85) dX8_rank_7 rfl ?_
    exact ev_ireturn dX8_rank_85 rfl True.intro rfl rfl ⟨rfl, h3⟩
theorem ct_X8_rank {G : GW} (x0 : Int32) (μ : Mem) : Ev2 G mX8_rank 1 0 [(0, .int x0)] [] μ (fun v μ' => v = some (.int (rkM x0)) ∧ μ' = μ) := by
  refine sg_X8_rank_0 ?_
  unfold rkM
  refine ⟨fun c1 => ⟨fun c2 => ⟨fun c3 => ⟨fun c4 => ⟨?_, rfl⟩, fun c4 => ⟨fun c5 => ⟨fun c6 => ⟨?_, rfl⟩, fun c6 => ⟨fun c7 => ⟨fun c8 => ⟨fun c9 => ⟨?_, rfl⟩, fun c9 => ⟨?_, rfl⟩⟩, fun c8 => ⟨?_, rfl⟩⟩, fun c7 => ⟨?_, rfl⟩⟩⟩, fun c5 => ⟨?_, rfl⟩⟩⟩, fun c3 => ⟨?_, rfl⟩⟩, fun c2 => ⟨?_, rfl⟩⟩, fun c1 => ⟨?_, rfl⟩⟩
  · rw [if_neg c1, if_neg c2, if_neg c3, if_pos c4]
  · rw [if_neg c1, if_neg c2, if_neg c3, if_neg c4, if_neg c5, if_pos c6]
  · rw [if_neg c1, if_neg c2, if_neg c3, if_neg c4, if_neg c5, if_neg c6, if_neg c7, if_neg c8, if_neg c9]
  · rw [if_neg c1, if_neg c2, if_neg c3, if_neg c4, if_neg c5, if_neg c6, if_neg c7, if_neg c8, if_pos c9]
  · rw [if_neg c1, if_neg c2, if_neg c3, if_neg c4, if_neg c5, if_neg c6, if_neg c7, if_pos c8]
  · rw [if_neg c1, if_neg c2, if_neg c3, if_neg c4, if_neg c5, if_neg c6, if_pos c7]
  · rw [if_neg c1, if_neg c2, if_neg c3, if_neg c4, if_pos c5]
  · rw [if_neg c1, if_neg c2, if_pos c3]
  · rw [if_neg c1, if_pos c2]
  · rw [if_pos c1]
theorem sg_X8_await_0 {G : GW} {K : Option Value → Mem → Prop} {μ : Mem} {x1 : Int32}  (h : (vp_in (μ 82 24) 170) ∧ K none (mset (mset μ 97 (μ 82 24).toNatClampNeg x1) 82 24 ((μ 82 24) + 1))) : Ev2 G mX8_await 1 0 [(0, .ref 82), (1, .int x1)] [] μ K := by
  refine ev_aload_n dX8_await_0 0 rfl (by decide) ?_
  refine ev_getR' fl_8_129 rfl kd_82 rf_82_23 dX8_await_1 ?_
  refine ev_aload_n dX8_await_4 0 rfl (by decide) ?_
  refine ev_getI' (v := (μ 82 24)) fl_8_126 rfl kd_82 rfl dX8_await_5 ?_
  refine ev_iload_n dX8_await_8 1 rfl ?_
  have p1 := h.1
  have h2 := h.2
  refine ev_iastore' (j := (μ 82 24).toNatClampNeg) kd_97 ln_97 p1 rfl dX8_await_9 ?_
  refine ev_aload_n dX8_await_10 0 rfl (by decide) ?_
  refine ev_dup dX8_await_11 rfl ?_
  refine ev_getI' (v := (μ 82 24)) fl_8_126 rfl kd_82 rfl dX8_await_12 ?_
  refine ev_iconst (v := 1) dX8_await_15 rfl ?_
  refine ev_iadd dX8_await_16 ?_
  refine ev_putI fl_8_126 ⟨rfl, rfl, rfl⟩ (fun r hr => by cases hr; rfl) kd_82 dX8_await_17 ?_
  exact ev_return dX8_await_20 rfl rfl rfl ⟨rfl, h2⟩
theorem ct_X8_await {G : GW} (x1 : Int32) (μ : Mem) (hp : awP μ) : Ev2 G mX8_await 1 0 [(0, .ref 82), (1, .int x1)] [] μ (fun v μ' => v = none ∧ μ' = awM μ x1) := sg_X8_await_0 ⟨hp, rfl, rfl⟩
theorem sg_X8_doAll_0 {G : GW} {K : Option Value → Mem → Prop} {μ : Mem} {x1 : Int32}  (h : (((μ 82 24) ≤ 0) → K none μ) ∧ ((¬ ((μ 82 24) ≤ 0)) → (vp_in ((μ 82 24) - 1) 170) ∧ (((μ 97 ((μ 82 24) - 1).toNatClampNeg) = 30) → K none μ) ∧ ((¬ ((μ 97 ((μ 82 24) - 1).toNatClampNeg) = 30)) → (vp_in ((μ 82 24) - 1) 170) ∧ (((rkM (μ 97 ((μ 82 24) - 1).toNatClampNeg)) < x1) → K none μ) ∧ ((¬ ((rkM (μ 97 ((μ 82 24) - 1).toNatClampNeg)) < x1)) → (vp_in ((μ 82 24) - 1) 170) ∧ (((μ 97 ((μ 82 24) - 1).toNatClampNeg) = 12) → (vp_in ((μ 82 24) - 1) 170) ∧ (emP (mset (mset μ 82 24 ((μ 82 24) - 1)) 82 25 ((μ 82 25) - 1))) ∧ Ev2 G mX8_doAll 2 0 [(0, .ref 82), (1, .int x1)] [] (emM (mset (mset μ 82 24 ((μ 82 24) - 1)) 82 25 ((μ 82 25) - 1)) (μ 97 ((μ 82 24) - 1).toNatClampNeg)) K) ∧ ((¬ ((μ 97 ((μ 82 24) - 1).toNatClampNeg) = 12)) → (vp_in ((μ 82 24) - 1) 170) ∧ ((¬ (μ 97 ((μ 82 24) - 1).toNatClampNeg) = 18) → (vp_in ((μ 82 24) - 1) 170) ∧ (emP (mset (mset μ 82 24 ((μ 82 24) - 1)) 82 25 ((μ 82 25) - 0))) ∧ Ev2 G mX8_doAll 2 0 [(0, .ref 82), (1, .int x1)] [] (emM (mset (mset μ 82 24 ((μ 82 24) - 1)) 82 25 ((μ 82 25) - 0)) (μ 97 ((μ 82 24) - 1).toNatClampNeg)) K) ∧ (((μ 97 ((μ 82 24) - 1).toNatClampNeg) = 18) → (vp_in ((μ 82 24) - 1) 170) ∧ (emP (mset (mset μ 82 24 ((μ 82 24) - 1)) 82 25 ((μ 82 25) - 1))) ∧ Ev2 G mX8_doAll 2 0 [(0, .ref 82), (1, .int x1)] [] (emM (mset (mset μ 82 24 ((μ 82 24) - 1)) 82 25 ((μ 82 25) - 1)) (μ 97 ((μ 82 24) - 1).toNatClampNeg)) K)))))) : Ev2 G mX8_doAll 2 0 [(0, .ref 82), (1, .int x1)] [] μ K := by
  refine ev_aload_n dX8_doAll_0 0 rfl (by decide) ?_
  refine ev_getI' (v := (μ 82 24)) fl_8_126 rfl kd_82 rfl dX8_doAll_1 ?_
  refine ev_if_le (tgt := 109) dX8_doAll_4 rfl (fun c1 => ?_) (fun c1 => ?_)
  · have h2 := h.1 c1
    exact ev_return dX8_doAll_109 rfl rfl rfl ⟨rfl, h2⟩
  · have h3 := h.2 c1
    refine ev_aload_n dX8_doAll_7 0 rfl (by decide) ?_
    refine ev_getR' fl_8_129 rfl kd_82 rf_82_23 dX8_doAll_8 ?_
    refine ev_aload_n dX8_doAll_11 0 rfl (by decide) ?_
    refine ev_getI' (v := (μ 82 24)) fl_8_126 rfl kd_82 rfl dX8_doAll_12 ?_
    refine ev_iconst (v := 1) dX8_doAll_15 rfl ?_
    refine ev_isub dX8_doAll_16 ?_
    have p4 := h3.1
    have h5 := h3.2
    refine ev_iaload' (v := (μ 97 ((μ 82 24) - 1).toNatClampNeg)) kd_97 ln_97 p4 rfl dX8_doAll_17 ?_
    refine ev_bipush (v := 30) dX8_doAll_18 rfl ?_
    refine ev_icmp_eq (tgt := 109) dX8_doAll_20 rfl (fun c6 => ?_) (fun c6 => ?_)
    · have h7 := h5.1 c6
      exact ev_return dX8_doAll_109 rfl rfl rfl ⟨rfl, h7⟩
    · have h8 := h5.2 c6
      refine ev_aload_n dX8_doAll_23 0 rfl (by decide) ?_
      refine ev_getR' fl_8_129 rfl kd_82 rf_82_23 dX8_doAll_24 ?_
      refine ev_aload_n dX8_doAll_27 0 rfl (by decide) ?_
      refine ev_getI' (v := (μ 82 24)) fl_8_126 rfl kd_82 rfl dX8_doAll_28 ?_
      refine ev_iconst (v := 1) dX8_doAll_31 rfl ?_
      refine ev_isub dX8_doAll_32 ?_
      have p9 := h8.1
      have h10 := h8.2
      refine ev_iaload' (v := (μ 97 ((μ 82 24) - 1).toNatClampNeg)) kd_97 ln_97 p9 rfl dX8_doAll_33 ?_
      refine e2_callS (w := .int (rkM (μ 97 ((μ 82 24) - 1).toNatClampNeg))) (μ1 := μ) (as := [.int (μ 97 ((μ 82 24) - 1).toNatClampNeg)]) (st := []) ok_X8_rank sv_X8_rank ml_8_132 dX8_doAll_34 rfl rfl (Nat.le_of_ble_eq_true rfl) (Nat.le_of_ble_eq_true rfl) (by decide) (ct_X8_rank ((μ 97 ((μ 82 24) - 1).toNatClampNeg)) μ) ?_
      refine ev_iload_n dX8_doAll_37 1 rfl ?_
      refine ev_icmp_lt (tgt := 109) dX8_doAll_38 rfl (fun c11 => ?_) (fun c11 => ?_)
      · have h12 := h10.1 c11
        exact ev_return dX8_doAll_109 rfl rfl rfl ⟨rfl, h12⟩
      · have h13 := h10.2 c11
        refine ev_aload_n dX8_doAll_41 0 rfl (by decide) ?_
        refine ev_dup dX8_doAll_42 rfl ?_
        refine ev_getI' (v := (μ 82 24)) fl_8_126 rfl kd_82 rfl dX8_doAll_43 ?_
        refine ev_iconst (v := 1) dX8_doAll_46 rfl ?_
        refine ev_isub dX8_doAll_47 ?_
        refine ev_putI fl_8_126 ⟨rfl, rfl, rfl⟩ (fun r hr => by cases hr; rfl) kd_82 dX8_doAll_48 ?_
        refine ev_aload_n dX8_doAll_51 0 rfl (by decide) ?_
        refine ev_dup dX8_doAll_52 rfl ?_
        refine ev_getI' (v := (μ 82 25)) fl_8_135 rfl kd_82 rfl dX8_doAll_53 ?_
        refine ev_aload_n dX8_doAll_56 0 rfl (by decide) ?_
        refine ev_getR' fl_8_129 rfl kd_82 rf_82_23 dX8_doAll_57 ?_
        refine ev_aload_n dX8_doAll_60 0 rfl (by decide) ?_
        refine ev_getI' (v := ((μ 82 24) - 1)) fl_8_126 rfl kd_82 rfl dX8_doAll_61 ?_
        have p14 := h13.1
        have h15 := h13.2
        refine ev_iaload' (v := (μ 97 ((μ 82 24) - 1).toNatClampNeg)) kd_97 ln_97 p14 rfl dX8_doAll_64 ?_
        refine ev_bipush (v := 12) dX8_doAll_65 rfl ?_
        refine ev_icmp_eq (tgt := 84) dX8_doAll_67 rfl (fun c16 => ?_) (fun c16 => ?_)
        · have h17 := h15.1 c16
          refine ev_iconst (v := 1) dX8_doAll_84 rfl ?_
          refine ev_goto (tgt := 89) dX8_doAll_85 rfl ?_
          refine ev_isub dX8_doAll_89 ?_
          refine ev_putI fl_8_135 ⟨rfl, rfl, rfl⟩ (fun r hr => by cases hr; rfl) kd_82 dX8_doAll_90 ?_
          refine ev_aload_n dX8_doAll_93 0 rfl (by decide) ?_
          refine ev_aload_n dX8_doAll_94 0 rfl (by decide) ?_
          refine ev_getR' fl_8_129 rfl kd_82 rf_82_23 dX8_doAll_95 ?_
          refine ev_aload_n dX8_doAll_98 0 rfl (by decide) ?_
          refine ev_getI' (v := ((μ 82 24) - 1)) fl_8_126 rfl kd_82 rfl dX8_doAll_99 ?_
          have p19 := h17.1
          have h20 := h17.2
          refine ev_iaload' (v := (μ 97 ((μ 82 24) - 1).toNatClampNeg)) kd_97 ln_97 p19 rfl dX8_doAll_102 ?_
          have p21 := h20.1
          have h22 := h20.2
          refine e2_callVv (μ1 := (emM (mset (mset μ 82 24 ((μ 82 24) - 1)) 82 25 ((μ 82 25) - 1)) (μ 97 ((μ 82 24) - 1).toNatClampNeg))) (a := 82) (as := [.int (μ 97 ((μ 82 24) - 1).toNatClampNeg)]) (st := []) ok_X8_emit vi_X8_emit ml_8_138 hcl_8 kd_82 dX8_doAll_103 rfl rfl (Nat.le_of_ble_eq_true rfl) (Nat.le_of_ble_eq_true rfl) (by decide) (ct_X8_emit ((μ 97 ((μ 82 24) - 1).toNatClampNeg)) (mset (mset μ 82 24 ((μ 82 24) - 1)) 82 25 ((μ 82 25) - 1)) p21) ?_
          refine ev_goto (tgt := 0) dX8_doAll_106 rfl ?_
          exact h22
        · have h18 := h15.2 c16
          refine ev_aload_n dX8_doAll_70 0 rfl (by decide) ?_
          refine ev_getR' fl_8_129 rfl kd_82 rf_82_23 dX8_doAll_71 ?_
          refine ev_aload_n dX8_doAll_74 0 rfl (by decide) ?_
          refine ev_getI' (v := ((μ 82 24) - 1)) fl_8_126 rfl kd_82 rfl dX8_doAll_75 ?_
          have p23 := h18.1
          have h24 := h18.2
          refine ev_iaload' (v := (μ 97 ((μ 82 24) - 1).toNatClampNeg)) kd_97 ln_97 p23 rfl dX8_doAll_78 ?_
          refine ev_bipush (v := 18) dX8_doAll_79 rfl ?_
          refine ev_icmp_ne (tgt := 88) dX8_doAll_81 rfl (fun c25 => ?_) (fun c25 => ?_)
          · have h26 := h24.1 c25
            refine ev_iconst (v := 0) dX8_doAll_88 rfl ?_
            refine ev_isub dX8_doAll_89 ?_
            refine ev_putI fl_8_135 ⟨rfl, rfl, rfl⟩ (fun r hr => by cases hr; rfl) kd_82 dX8_doAll_90 ?_
            refine ev_aload_n dX8_doAll_93 0 rfl (by decide) ?_
            refine ev_aload_n dX8_doAll_94 0 rfl (by decide) ?_
            refine ev_getR' fl_8_129 rfl kd_82 rf_82_23 dX8_doAll_95 ?_
            refine ev_aload_n dX8_doAll_98 0 rfl (by decide) ?_
            refine ev_getI' (v := ((μ 82 24) - 1)) fl_8_126 rfl kd_82 rfl dX8_doAll_99 ?_
            have p28 := h26.1
            have h29 := h26.2
            refine ev_iaload' (v := (μ 97 ((μ 82 24) - 1).toNatClampNeg)) kd_97 ln_97 p28 rfl dX8_doAll_102 ?_
            have p30 := h29.1
            have h31 := h29.2
            refine e2_callVv (μ1 := (emM (mset (mset μ 82 24 ((μ 82 24) - 1)) 82 25 ((μ 82 25) - 0)) (μ 97 ((μ 82 24) - 1).toNatClampNeg))) (a := 82) (as := [.int (μ 97 ((μ 82 24) - 1).toNatClampNeg)]) (st := []) ok_X8_emit vi_X8_emit ml_8_138 hcl_8 kd_82 dX8_doAll_103 rfl rfl (Nat.le_of_ble_eq_true rfl) (Nat.le_of_ble_eq_true rfl) (by decide) (ct_X8_emit ((μ 97 ((μ 82 24) - 1).toNatClampNeg)) (mset (mset μ 82 24 ((μ 82 24) - 1)) 82 25 ((μ 82 25) - 0)) p30) ?_
            refine ev_goto (tgt := 0) dX8_doAll_106 rfl ?_
            exact h31
          · have h27 := h24.2 c25
            refine ev_iconst (v := 1) dX8_doAll_84 rfl ?_
            refine ev_goto (tgt := 89) dX8_doAll_85 rfl ?_
            refine ev_isub dX8_doAll_89 ?_
            refine ev_putI fl_8_135 ⟨rfl, rfl, rfl⟩ (fun r hr => by cases hr; rfl) kd_82 dX8_doAll_90 ?_
            refine ev_aload_n dX8_doAll_93 0 rfl (by decide) ?_
            refine ev_aload_n dX8_doAll_94 0 rfl (by decide) ?_
            refine ev_getR' fl_8_129 rfl kd_82 rf_82_23 dX8_doAll_95 ?_
            refine ev_aload_n dX8_doAll_98 0 rfl (by decide) ?_
            refine ev_getI' (v := ((μ 82 24) - 1)) fl_8_126 rfl kd_82 rfl dX8_doAll_99 ?_
            have p32 := h27.1
            have h33 := h27.2
            refine ev_iaload' (v := (μ 97 ((μ 82 24) - 1).toNatClampNeg)) kd_97 ln_97 p32 rfl dX8_doAll_102 ?_
            have p34 := h33.1
            have h35 := h33.2
            refine e2_callVv (μ1 := (emM (mset (mset μ 82 24 ((μ 82 24) - 1)) 82 25 ((μ 82 25) - 1)) (μ 97 ((μ 82 24) - 1).toNatClampNeg))) (a := 82) (as := [.int (μ 97 ((μ 82 24) - 1).toNatClampNeg)]) (st := []) ok_X8_emit vi_X8_emit ml_8_138 hcl_8 kd_82 dX8_doAll_103 rfl rfl (Nat.le_of_ble_eq_true rfl) (Nat.le_of_ble_eq_true rfl) (by decide) (ct_X8_emit ((μ 97 ((μ 82 24) - 1).toNatClampNeg)) (mset (mset μ 82 24 ((μ 82 24) - 1)) 82 25 ((μ 82 25) - 1)) p34) ?_
            refine ev_goto (tgt := 0) dX8_doAll_106 rfl ?_
            exact h35
theorem lp_X8_doAll {G : GW} {r : Int32} : ∀ n (b c : Nat) (μ : Mem), n ≤ 170 → b + c + n ≤ 2880 → μ 82 24 = nI n → μ 82 28 = nI b → μ 82 29 = nI c → Ev2 G mX8_doAll 2 0 [(0, .ref 82), (1, .int r)] [] μ (fun v μ' => v = none ∧ μ' = daF r n μ) := by
  intro n
  induction n with
  | zero =>
    intro b c μ _ _ h1 _ _
    refine sg_X8_doAll_0 ⟨fun _ => ⟨rfl, rfl⟩, fun q => ?_⟩
    rw [h1] at q
    exact absurd (Int32.le_refl _) q
  | succ n ih =>
    intro b c μ hn hbc h1 h2 h3
    have e1 : nI (n + 1) - 1 = nI n := by rw [nI_m1 (by omega)]; rfl
    have hv : vp_in (nI n) 170 := vp_nI (by omega) (by omega)
    have ef : daF r (n + 1) μ = if μ 97 n = 30 ∨ rkM (μ 97 n) < r then μ else daF r n (poM μ n) := rfl
    have go : ∀ x : Int32, x = (if μ 97 n = 12 ∨ μ 97 n = 18 then 1 else 0) → ¬ (μ 97 n = 30 ∨ rkM (μ 97 n) < r) → emP (mset (mset μ 82 24 (nI n)) 82 25 (μ 82 25 - x)) ∧ Ev2 G mX8_doAll 2 0 [(0, .ref 82), (1, .int r)] [] (emM (mset (mset μ 82 24 (nI n)) 82 25 (μ 82 25 - x)) (μ 97 n)) (fun v μ' => v = none ∧ μ' = daF r (n + 1) μ) := by
      intro x hx hno
      have ep : poM μ n = emM (mset (mset μ 82 24 (nI n)) 82 25 (μ 82 25 - x)) (μ 97 n) := by
        unfold poM
        rw [h1, e1, hx]
      have f28 : mset (mset μ 82 24 (nI n)) 82 25 (μ 82 25 - x) 82 28 = nI b := by rw [mset_other (by omega), mset_other (by omega)]; exact h2
      have f29 : mset (mset μ 82 24 (nI n)) 82 25 (μ 82 25 - x) 82 29 = nI c := by rw [mset_other (by omega), mset_other (by omega)]; exact h3
      refine ⟨by unfold emP; rw [f28, f29, nI_add]; exact vp_nI (by omega) (by omega), ?_⟩
      rw [ef, if_neg hno, ep]
      unfold emM
      rw [f28, f29]
      refine ih b (c + 1) _ (by omega) (by omega) ?_ ?_ ?_
      · rw [mset_other (by omega), mset_ne (by omega), mset_other (by omega), mset_same]
      · rw [mset_other (by omega), mset_ne (by omega)]; exact f28
      · rw [mset_same, nI_1]
    refine sg_X8_doAll_0 ?_
    rw [h1, e1, ix_nI (by omega)]
    refine ⟨fun q => absurd q (nI_ge (b := n + 1) (a := 0) (by omega) (by omega)), fun _ => ⟨hv, fun c1 => ⟨rfl, ?_⟩, fun c1 => ⟨hv, fun c2 => ⟨rfl, ?_⟩, fun c2 => ⟨hv, fun c3 => ⟨hv, go 1 (by rw [if_pos (Or.inl c3)]) (fun q => q.elim c1 c2)⟩, fun c3 => ⟨hv, fun c4 => ⟨hv, go 0 (by rw [if_neg (fun q => q.elim c3 c4)]) (fun q => q.elim c1 c2)⟩, fun c4 => ⟨hv, go 1 (by rw [if_pos (Or.inr c4)]) (fun q => q.elim c1 c2)⟩⟩⟩⟩⟩⟩
    · rw [ef, if_pos (Or.inl c1)]
    · rw [ef, if_pos (Or.inr c2)]
theorem ct_X8_doAll {G : GW} (x1 : Int32) (μ : Mem) (hp : daP μ) : Ev2 G mX8_doAll 2 0 [(0, .ref 82), (1, .int x1)] [] μ (fun v μ' => v = none ∧ μ' = daM μ x1) := by
  obtain ⟨n, b, c, h1, h2, h3, h4, h5⟩ := hp
  unfold daM
  rw [h3, ix_nI (by omega)]
  exact lp_X8_doAll n b c μ h1 h2 h3 h4 h5
/-! ahead, between, closes -/
def btO (μ : Mem) : Int32 := if isSgM μ 43 = true then 15 else if isSgM μ 45 = true then 16 else if isSgM μ 42 = true then 17 else if isSgM μ 60 = true then 13 else if isSgM μ 61 = true then 14 else if isKyM μ 4 = true then 11 else if isKyM μ 3 = true then 10 else -1
def btB (μ : Mem) : Bool := !decide (btO μ = -1) && !(decide (rkM (btO μ) = 4) && !decide (μ 98 (μ 82 26).toNatClampNeg = 0))
def cmM (μ : Mem) (op : Int32) : Mem := mset μ 98 (μ 82 26).toNatClampNeg (if rkM op = 4 then 1 else if rkM op ≤ 4 then 0 else if μ 98 (μ 82 26).toNatClampNeg = 0 then 0 else 1)
def btM (μ : Mem) : Mem := if btB μ = true then cmM (awM (daM μ (rkM (btO μ))) (btO μ)) (btO μ) else μ
def n8P (μ : Mem) : Prop := vp_in (μ 82 26) 8
def btP (μ : Mem) : Prop := daP μ ∧ n8P μ ∧ (btB μ = true → awP (daM μ (rkM (btO μ))) ∧ n8P (awM (daM μ (rkM (btO μ))) (btO μ)))
def clB (μ : Mem) : Bool := isSgM μ 41 && !decide (μ 82 26 = 0)
def clN1 (ν : Mem) : Mem := mset (mset (mset ν 82 24 (ν 82 24 - 1)) 82 26 (ν 82 26 - 1)) 82 25 (ν 82 25 - 1)
def clM (μ : Mem) : Mem := if clB μ = true then daM (clN1 (daM μ 1)) 7 else μ
def clP (μ : Mem) : Prop := daP μ ∧ (clB μ = true → daP (clN1 (daM μ 1)))
def ahI (μ : Mem) (x : Int32) : Bool := isSgM μ 40 || (isSgM μ 45 || (!decide (x = 0) && isKyM μ 5))
def ahB (μ : Mem) (x : Int32) : Bool := ahI μ x && !decide (μ 82 25 = 5)
def opM (μ : Mem) : Mem := mset μ 82 25 (μ 82 25 + 1)
def neM (μ : Mem) : Mem := mset (mset μ 82 26 (μ 82 26 + 1)) 98 (μ 82 26 + 1).toNatClampNeg 0
def ahM (μ : Mem) (x : Int32) : Mem := if ahB μ x = true then (if isSgM μ 40 = true then neM (awM (opM μ) 30) else if μ 82 18 = 3 then awM (opM μ) 12 else awM (opM μ) 18) else μ
def ahP (μ : Mem) : Prop := awP μ ∧ (vp_in (μ 82 26 + 1) 8 ∨ μ 82 25 = 5)
theorem sg_X8_closes_0 {G : GW} {K : Option Value → Mem → Prop} {μ : Mem}   (h : (((isSgM μ (41 : Int32)) = false) → K (some (.int 0)) μ) ∧ (((isSgM μ (41 : Int32)) = true) → ((¬ (μ 82 26) = 0) → (daP μ) ∧ (daP (mset (mset (mset (daM μ (1 : Int32)) 82 24 (((daM μ (1 : Int32)) 82 24) - 1)) 82 26 (((daM μ (1 : Int32)) 82 26) - 1)) 82 25 (((daM μ (1 : Int32)) 82 25) - 1))) ∧ K (some (.int 1)) (daM (mset (mset (mset (daM μ (1 : Int32)) 82 24 (((daM μ (1 : Int32)) 82 24) - 1)) 82 26 (((daM μ (1 : Int32)) 82 26) - 1)) 82 25 (((daM μ (1 : Int32)) 82 25) - 1)) (7 : Int32))) ∧ (((μ 82 26) = 0) → K (some (.int 0)) μ))) : Ev2 G mX8_closes 3 0 [(0, .ref 82)] [] μ K := by
  refine ev_aload_n dX8_closes_0 0 rfl (by decide) ?_
  refine ev_bipush (v := 41) dX8_closes_1 rfl ?_
  refine e2_callV (w := .int (bi (isSgM μ (41 : Int32)))) (μ1 := μ) (a := 82) (as := [.int 41]) (st := []) ok_X8_isSign vi_X8_isSign ml_8_142 hcl_8 kd_82 dX8_closes_3 rfl rfl (Nat.le_of_ble_eq_true rfl) (Nat.le_of_ble_eq_true rfl) (by decide) (ct_X8_isSign (41) μ) ?_
  refine ev_ifeq_bi (tgt := 16) dX8_closes_6 rfl (fun c1 => ?_) (fun c1 => ?_)
  · have h2 := h.1 c1
    refine ev_iconst (v := 0) dX8_closes_16 rfl ?_
    exact ev_ireturn dX8_closes_17 rfl rfl rfl rfl ⟨rfl, h2⟩
  · have h3 := h.2 c1
    refine ev_aload_n dX8_closes_9 0 rfl (by decide) ?_
    refine ev_getI' (v := (μ 82 26)) fl_8_152 rfl kd_82 rfl dX8_closes_10 ?_
    refine ev_if_ne (tgt := 18) dX8_closes_13 rfl (fun c4 => ?_) (fun c4 => ?_)
    · have h5 := h3.1 c4
      refine ev_aload_n dX8_closes_18 0 rfl (by decide) ?_
      refine ev_iconst (v := 1) dX8_closes_19 rfl ?_
      have p7 := h5.1
      have h8 := h5.2
      refine e2_callVv (μ1 := (daM μ (1 : Int32))) (a := 82) (as := [.int 1]) (st := []) ok_X8_doAll vi_X8_doAll ml_8_155 hcl_8 kd_82 dX8_closes_20 rfl rfl (Nat.le_of_ble_eq_true rfl) (Nat.le_of_ble_eq_true rfl) (by decide) (ct_X8_doAll (1) μ p7) ?_
      refine ev_aload_n dX8_closes_23 0 rfl (by decide) ?_
      refine ev_dup dX8_closes_24 rfl ?_
      refine ev_getI' (v := ((daM μ (1 : Int32)) 82 24)) fl_8_126 rfl kd_82 rfl dX8_closes_25 ?_
      refine ev_iconst (v := 1) dX8_closes_28 rfl ?_
      refine ev_isub dX8_closes_29 ?_
      refine ev_putI fl_8_126 ⟨rfl, rfl, rfl⟩ (fun r hr => by cases hr; rfl) kd_82 dX8_closes_30 ?_
      refine ev_aload_n dX8_closes_33 0 rfl (by decide) ?_
      refine ev_dup dX8_closes_34 rfl ?_
      refine ev_getI' (v := ((daM μ (1 : Int32)) 82 26)) fl_8_152 rfl kd_82 rfl dX8_closes_35 ?_
      refine ev_iconst (v := 1) dX8_closes_38 rfl ?_
      refine ev_isub dX8_closes_39 ?_
      refine ev_putI fl_8_152 ⟨rfl, rfl, rfl⟩ (fun r hr => by cases hr; rfl) kd_82 dX8_closes_40 ?_
      refine ev_aload_n dX8_closes_43 0 rfl (by decide) ?_
      refine ev_dup dX8_closes_44 rfl ?_
      refine ev_getI' (v := ((daM μ (1 : Int32)) 82 25)) fl_8_135 rfl kd_82 rfl dX8_closes_45 ?_
      refine ev_iconst (v := 1) dX8_closes_48 rfl ?_
      refine ev_isub dX8_closes_49 ?_
      refine ev_putI fl_8_135 ⟨rfl, rfl, rfl⟩ (fun r hr => by cases hr; rfl) kd_82 dX8_closes_50 ?_
      refine ev_aload_n dX8_closes_53 0 rfl (by decide) ?_
      refine ev_bipush (v := 7) dX8_closes_54 rfl ?_
      have p9 := h8.1
      have h10 := h8.2
      refine e2_callVv (μ1 := (daM (mset (mset (mset (daM μ (1 : Int32)) 82 24 (((daM μ (1 : Int32)) 82 24) - 1)) 82 26 (((daM μ (1 : Int32)) 82 26) - 1)) 82 25 (((daM μ (1 : Int32)) 82 25) - 1)) (7 : Int32))) (a := 82) (as := [.int 7]) (st := []) ok_X8_doAll vi_X8_doAll ml_8_155 hcl_8 kd_82 dX8_closes_56 rfl rfl (Nat.le_of_ble_eq_true rfl) (Nat.le_of_ble_eq_true rfl) (by decide) (ct_X8_doAll (7) (mset (mset (mset (daM μ (1 : Int32)) 82 24 (((daM μ (1 : Int32)) 82 24) - 1)) 82 26 (((daM μ (1 : Int32)) 82 26) - 1)) 82 25 (((daM μ (1 : Int32)) 82 25) - 1)) p9) ?_
      refine ev_iconst (v := 1) dX8_closes_59 rfl ?_
      exact ev_ireturn dX8_closes_60 rfl rfl rfl rfl ⟨rfl, h10⟩
    · have h6 := h3.2 c4
      refine ev_iconst (v := 0) dX8_closes_16 rfl ?_
      exact ev_ireturn dX8_closes_17 rfl rfl rfl rfl ⟨rfl, h6⟩
theorem ct_X8_closes {G : GW} (μ : Mem) (hp : clP μ) : Ev2 G mX8_closes 3 0 [(0, .ref 82)] [] μ (fun v μ' => v = some (.int (bi (clB μ))) ∧ μ' = clM μ) := by
  unfold clM
  refine sg_X8_closes_0 ⟨fun c => ?_, fun c => ⟨fun d => ⟨hp.1, ?_⟩, fun d => ?_⟩⟩
  · have e : clB μ = false := by unfold clB; rw [c]; rfl
    rw [e]
    exact ⟨rfl, rfl⟩
  · have e : clB μ = true := by unfold clB; rw [c, decide_eq_false d]; rfl
    rw [e]
    exact ⟨hp.2 e, rfl, rfl⟩
  · have e : clB μ = false := by unfold clB; rw [decide_eq_true d, Bool.not_true, Bool.and_false]
    rw [e]
    exact ⟨rfl, rfl⟩
theorem sg_X8_ahead_0 {G : GW} {K : Option Value → Mem → Prop} {μ : Mem} {x1 : Int32}  (h : (((isSgM μ (40 : Int32)) = true) → Ev2 G mX8_ahead 2 36 [(0, .ref 82), (2, .int 1)] [] μ K) ∧ (((isSgM μ (40 : Int32)) = false) → (((isSgM μ (45 : Int32)) = true) → Ev2 G mX8_ahead 2 36 [(0, .ref 82), (2, .int 1)] [] μ K) ∧ (((isSgM μ (45 : Int32)) = false) → ((x1 = 0) → Ev2 G mX8_ahead 2 36 [(0, .ref 82), (2, .int 0)] [] μ K) ∧ ((¬ (x1 = 0)) → (((isKyM μ (5 : Int32)) = false) → Ev2 G mX8_ahead 2 36 [(0, .ref 82), (2, .int 0)] [] μ K) ∧ (((isKyM μ (5 : Int32)) = true) → Ev2 G mX8_ahead 2 36 [(0, .ref 82), (2, .int 1)] [] μ K))))) : Ev2 G mX8_ahead 2 0 [(0, .ref 82), (1, .int x1)] [] μ K := by
  refine ev_aload_n dX8_ahead_0 0 rfl (by decide) ?_
  refine ev_bipush (v := 40) dX8_ahead_1 rfl ?_
  refine e2_callV (w := .int (bi (isSgM μ (40 : Int32)))) (μ1 := μ) (a := 82) (as := [.int 40]) (st := []) ok_X8_isSign vi_X8_isSign ml_8_142 hcl_8 kd_82 dX8_ahead_3 rfl rfl (Nat.le_of_ble_eq_true rfl) (Nat.le_of_ble_eq_true rfl) (by decide) (ct_X8_isSign (40) μ) ?_
  refine ev_ifne_bi (tgt := 30) dX8_ahead_6 rfl (fun c1 => ?_) (fun c1 => ?_)
  · have h2 := h.1 c1
    refine ev_iconst (v := 1) dX8_ahead_30 rfl ?_
    refine ev_goto (tgt := 35) dX8_ahead_31 rfl ?_
    refine ev_istore_n (lv' := [(0, .ref 82), (1, .int x1), (2, .int 1)]) dX8_ahead_35 (by decide) [1, 2, 0] rfl ?_
    refine EvW.less [0, 2] (lv' := [(0, .ref 82), (2, .int 1)]) rfl ?_
    exact h2
  · have h3 := h.2 c1
    refine ev_aload_n dX8_ahead_9 0 rfl (by decide) ?_
    refine ev_bipush (v := 45) dX8_ahead_10 rfl ?_
    refine e2_callV (w := .int (bi (isSgM μ (45 : Int32)))) (μ1 := μ) (a := 82) (as := [.int 45]) (st := []) ok_X8_isSign vi_X8_isSign ml_8_142 hcl_8 kd_82 dX8_ahead_12 rfl rfl (Nat.le_of_ble_eq_true rfl) (Nat.le_of_ble_eq_true rfl) (by decide) (ct_X8_isSign (45) μ) ?_
    refine ev_ifne_bi (tgt := 30) dX8_ahead_15 rfl (fun c4 => ?_) (fun c4 => ?_)
    · have h5 := h3.1 c4
      refine ev_iconst (v := 1) dX8_ahead_30 rfl ?_
      refine ev_goto (tgt := 35) dX8_ahead_31 rfl ?_
      refine ev_istore_n (lv' := [(0, .ref 82), (1, .int x1), (2, .int 1)]) dX8_ahead_35 (by decide) [1, 2, 0] rfl ?_
      refine EvW.less [0, 2] (lv' := [(0, .ref 82), (2, .int 1)]) rfl ?_
      exact h5
    · have h6 := h3.2 c4
      refine ev_iload_n dX8_ahead_18 1 rfl ?_
      refine ev_if_eq (tgt := 34) dX8_ahead_19 rfl (fun c7 => ?_) (fun c7 => ?_)
      · have h8 := h6.1 c7
        refine ev_iconst (v := 0) dX8_ahead_34 rfl ?_
        refine ev_istore_n (lv' := [(0, .ref 82), (1, .int x1), (2, .int 0)]) dX8_ahead_35 (by decide) [1, 2, 0] rfl ?_
        refine EvW.less [0, 2] (lv' := [(0, .ref 82), (2, .int 0)]) rfl ?_
        exact h8
      · have h9 := h6.2 c7
        refine ev_aload_n dX8_ahead_22 0 rfl (by decide) ?_
        refine ev_iconst (v := 5) dX8_ahead_23 rfl ?_
        refine e2_callV (w := .int (bi (isKyM μ (5 : Int32)))) (μ1 := μ) (a := 82) (as := [.int 5]) (st := []) ok_X8_isKey vi_X8_isKey ml_8_145 hcl_8 kd_82 dX8_ahead_24 rfl rfl (Nat.le_of_ble_eq_true rfl) (Nat.le_of_ble_eq_true rfl) (by decide) (ct_X8_isKey (5) μ) ?_
        refine ev_ifeq_bi (tgt := 34) dX8_ahead_27 rfl (fun c10 => ?_) (fun c10 => ?_)
        · have h11 := h9.1 c10
          refine ev_iconst (v := 0) dX8_ahead_34 rfl ?_
          refine ev_istore_n (lv' := [(0, .ref 82), (1, .int x1), (2, .int 0)]) dX8_ahead_35 (by decide) [1, 2, 0] rfl ?_
          refine EvW.less [0, 2] (lv' := [(0, .ref 82), (2, .int 0)]) rfl ?_
          exact h11
        · have h12 := h9.2 c10
          refine ev_iconst (v := 1) dX8_ahead_30 rfl ?_
          refine ev_goto (tgt := 35) dX8_ahead_31 rfl ?_
          refine ev_istore_n (lv' := [(0, .ref 82), (1, .int x1), (2, .int 1)]) dX8_ahead_35 (by decide) [1, 2, 0] rfl ?_
          refine EvW.less [0, 2] (lv' := [(0, .ref 82), (2, .int 1)]) rfl ?_
          exact h12
theorem sg_X8_ahead_36 {G : GW} {K : Option Value → Mem → Prop} {μ : Mem} {x2 : Bool}  (h : ((x2 = false) → K (some (.int 0)) μ) ∧ ((x2 = true) → ((¬ (μ 82 25) = 5) → Ev2 G mX8_ahead 2 50 [(0, .ref 82)] [] μ K) ∧ (((μ 82 25) = 5) → K (some (.int 0)) μ))) : Ev2 G mX8_ahead 2 36 [(0, .ref 82), (2, .int (bi x2))] [] μ K := by
  refine ev_iload_n dX8_ahead_36 1 rfl ?_
  refine ev_ifeq_bi (tgt := 48) dX8_ahead_37 rfl (fun c1 => ?_) (fun c1 => ?_)
  · have h2 := h.1 c1
    refine ev_iconst (v := 0) dX8_ahead_48 rfl ?_
    exact ev_ireturn dX8_ahead_49 rfl rfl rfl rfl ⟨rfl, h2⟩
  · have h3 := h.2 c1
    refine ev_aload_n dX8_ahead_40 0 rfl (by decide) ?_
    refine ev_getI' (v := (μ 82 25)) fl_8_135 rfl kd_82 rfl dX8_ahead_41 ?_
    refine ev_iconst (v := 5) dX8_ahead_44 rfl ?_
    refine ev_icmp_ne (tgt := 50) dX8_ahead_45 rfl (fun c4 => ?_) (fun c4 => ?_)
    · have h5 := h3.1 c4
      refine EvW.less [0] (lv' := [(0, .ref 82)]) rfl ?_
      exact h5
    · have h6 := h3.2 c4
      refine ev_iconst (v := 0) dX8_ahead_48 rfl ?_
      exact ev_ireturn dX8_ahead_49 rfl rfl rfl rfl ⟨rfl, h6⟩
theorem sg_X8_ahead_50 {G : GW} {K : Option Value → Mem → Prop} {μ : Mem}   (h : (((isSgM (mset μ 82 25 ((μ 82 25) + 1)) (40 : Int32)) = false) → ((¬ (μ 82 18) = 3) → (awP (mset μ 82 25 ((μ 82 25) + 1))) ∧ K (some (.int 1)) (awM (mset μ 82 25 ((μ 82 25) + 1)) (18 : Int32))) ∧ (((μ 82 18) = 3) → (awP (mset μ 82 25 ((μ 82 25) + 1))) ∧ K (some (.int 1)) (awM (mset μ 82 25 ((μ 82 25) + 1)) (12 : Int32)))) ∧ (((isSgM (mset μ 82 25 ((μ 82 25) + 1)) (40 : Int32)) = true) → (awP (mset μ 82 25 ((μ 82 25) + 1))) ∧ (vp_in (((awM (mset μ 82 25 ((μ 82 25) + 1)) (30 : Int32)) 82 26) + 1) 8) ∧ K (some (.int 1)) (mset (mset (awM (mset μ 82 25 ((μ 82 25) + 1)) (30 : Int32)) 82 26 (((awM (mset μ 82 25 ((μ 82 25) + 1)) (30 : Int32)) 82 26) + 1)) 98 (((awM (mset μ 82 25 ((μ 82 25) + 1)) (30 : Int32)) 82 26) + 1).toNatClampNeg 0))) : Ev2 G mX8_ahead 2 50 [(0, .ref 82)] [] μ K := by
  refine ev_aload_n dX8_ahead_50 0 rfl (by decide) ?_
  refine ev_dup dX8_ahead_51 rfl ?_
  refine ev_getI' (v := (μ 82 25)) fl_8_135 rfl kd_82 rfl dX8_ahead_52 ?_
  refine ev_iconst (v := 1) dX8_ahead_55 rfl ?_
  refine ev_iadd dX8_ahead_56 ?_
  refine ev_putI fl_8_135 ⟨rfl, rfl, rfl⟩ (fun r hr => by cases hr; rfl) kd_82 dX8_ahead_57 ?_
  refine ev_aload_n dX8_ahead_60 0 rfl (by decide) ?_
  refine ev_bipush (v := 40) dX8_ahead_61 rfl ?_
  refine e2_callV (w := .int (bi (isSgM (mset μ 82 25 ((μ 82 25) + 1)) (40 : Int32)))) (μ1 := (mset μ 82 25 ((μ 82 25) + 1))) (a := 82) (as := [.int 40]) (st := []) ok_X8_isSign vi_X8_isSign ml_8_142 hcl_8 kd_82 dX8_ahead_63 rfl rfl (Nat.le_of_ble_eq_true rfl) (Nat.le_of_ble_eq_true rfl) (by decide) (ct_X8_isSign (40) (mset μ 82 25 ((μ 82 25) + 1))) ?_
  refine ev_ifeq_bi (tgt := 98) dX8_ahead_66 rfl (fun c1 => ?_) (fun c1 => ?_)
  · have h2 := h.1 c1
    refine ev_aload_n dX8_ahead_98 0 rfl (by decide) ?_
    refine ev_aload_n dX8_ahead_99 0 rfl (by decide) ?_
    refine ev_getI' (v := (μ 82 18)) fl_8_91 rfl kd_82 rfl dX8_ahead_100 ?_
    refine ev_iconst (v := 3) dX8_ahead_103 rfl ?_
    refine ev_icmp_ne (tgt := 112) dX8_ahead_104 rfl (fun c4 => ?_) (fun c4 => ?_)
    · have h5 := h2.1 c4
      refine ev_bipush (v := 18) dX8_ahead_112 rfl ?_
      have p7 := h5.1
      have h8 := h5.2
      refine e2_callVv (μ1 := (awM (mset μ 82 25 ((μ 82 25) + 1)) (18 : Int32))) (a := 82) (as := [.int 18]) (st := []) ok_X8_await vi_X8_await ml_8_158 hcl_8 kd_82 dX8_ahead_114 rfl rfl (Nat.le_of_ble_eq_true rfl) (Nat.le_of_ble_eq_true rfl) (by decide) (ct_X8_await (18) (mset μ 82 25 ((μ 82 25) + 1)) p7) ?_
      refine ev_iconst (v := 1) dX8_ahead_117 rfl ?_
      exact ev_ireturn dX8_ahead_118 rfl rfl rfl rfl ⟨rfl, h8⟩
    · have h6 := h2.2 c4
      refine ev_bipush (v := 12) dX8_ahead_107 rfl ?_
      refine ev_goto (tgt := 114) dX8_ahead_109 rfl ?_
      have p9 := h6.1
      have h10 := h6.2
      refine e2_callVv (μ1 := (awM (mset μ 82 25 ((μ 82 25) + 1)) (12 : Int32))) (a := 82) (as := [.int 12]) (st := []) ok_X8_await vi_X8_await ml_8_158 hcl_8 kd_82 dX8_ahead_114 rfl rfl (Nat.le_of_ble_eq_true rfl) (Nat.le_of_ble_eq_true rfl) (by decide) (ct_X8_await (12) (mset μ 82 25 ((μ 82 25) + 1)) p9) ?_
      refine ev_iconst (v := 1) dX8_ahead_117 rfl ?_
      exact ev_ireturn dX8_ahead_118 rfl rfl rfl rfl ⟨rfl, h10⟩
  · have h3 := h.2 c1
    refine ev_aload_n dX8_ahead_69 0 rfl (by decide) ?_
    refine ev_bipush (v := 30) dX8_ahead_70 rfl ?_
    have p11 := h3.1
    have h12 := h3.2
    refine e2_callVv (μ1 := (awM (mset μ 82 25 ((μ 82 25) + 1)) (30 : Int32))) (a := 82) (as := [.int 30]) (st := []) ok_X8_await vi_X8_await ml_8_158 hcl_8 kd_82 dX8_ahead_72 rfl rfl (Nat.le_of_ble_eq_true rfl) (Nat.le_of_ble_eq_true rfl) (by decide) (ct_X8_await (30) (mset μ 82 25 ((μ 82 25) + 1)) p11) ?_
    refine ev_aload_n dX8_ahead_75 0 rfl (by decide) ?_
    refine ev_dup dX8_ahead_76 rfl ?_
    refine ev_getI' (v := ((awM (mset μ 82 25 ((μ 82 25) + 1)) (30 : Int32)) 82 26)) fl_8_152 rfl kd_82 rfl dX8_ahead_77 ?_
    refine ev_iconst (v := 1) dX8_ahead_80 rfl ?_
    refine ev_iadd dX8_ahead_81 ?_
    refine ev_putI fl_8_152 ⟨rfl, rfl, rfl⟩ (fun r hr => by cases hr; rfl) kd_82 dX8_ahead_82 ?_
    refine ev_aload_n dX8_ahead_85 0 rfl (by decide) ?_
    refine ev_getR' fl_8_148 rfl kd_82 rf_82_27 dX8_ahead_86 ?_
    refine ev_aload_n dX8_ahead_89 0 rfl (by decide) ?_
    refine ev_getI' (v := (((awM (mset μ 82 25 ((μ 82 25) + 1)) (30 : Int32)) 82 26) + 1)) fl_8_152 rfl kd_82 rfl dX8_ahead_90 ?_
    refine ev_iconst (v := 0) dX8_ahead_93 rfl ?_
    have p13 := h12.1
    have h14 := h12.2
    refine ev_zastore' (j := (((awM (mset μ 82 25 ((μ 82 25) + 1)) (30 : Int32)) 82 26) + 1).toNatClampNeg) kd_98 ln_98 p13 rfl rfl dX8_ahead_94 ?_
    refine ev_goto (tgt := 117) dX8_ahead_95 rfl ?_
    refine ev_iconst (v := 1) dX8_ahead_117 rfl ?_
    exact ev_ireturn dX8_ahead_118 rfl rfl rfl rfl ⟨rfl, h14⟩
theorem sg_op {μ : Mem} {c : Int32} : isSgM (opM μ) c = isSgM μ c := by
  unfold isSgM opM
  rw [mset_other (by omega), mset_other (by omega)]
theorem ct_X8_ahead {G : GW} (x1 : Int32) (μ : Mem) (hp : ahP μ) : Ev2 G mX8_ahead 2 0 [(0, .ref 82), (1, .int x1)] [] μ (fun v μ' => v = some (.int (bi (ahB μ x1))) ∧ μ' = ahM μ x1) := by
  have aw : awP (opM μ) := by
    unfold awP opM
    rw [mset_other (by omega)]
    exact hp.1
  have go : ∀ b : Bool, b = ahI μ x1 → Ev2 G mX8_ahead 2 36 [(0, .ref 82), (2, .int (bi b))] [] μ (fun v μ' => v = some (.int (bi (ahB μ x1))) ∧ μ' = ahM μ x1) := by
    intro b hb
    unfold ahM
    refine sg_X8_ahead_36 ⟨fun c => ?_, fun c => ⟨fun d => ?_, fun d => ?_⟩⟩
    · have e : ahB μ x1 = false := by unfold ahB; rw [← hb, c]; rfl
      rw [e]
      exact ⟨rfl, rfl⟩
    · have e : ahB μ x1 = true := by unfold ahB; rw [← hb, c, decide_eq_false d]; rfl
      rw [e, if_pos rfl]
      refine sg_X8_ahead_50 ?_
      have e1 : mset μ 82 25 (μ 82 25 + 1) = opM μ := rfl
      rw [e1, sg_op]
      have f26 : awM (opM μ) 30 82 26 = μ 82 26 := by
        unfold awM opM
        rw [mset_other (by omega), mset_ne (by omega), mset_other (by omega)]
      refine ⟨fun g => ⟨fun k => ⟨aw, ?_⟩, fun k => ⟨aw, ?_⟩⟩, fun g => ⟨aw, ?_, ?_⟩⟩
      · rw [if_neg (by rw [g]; decide), if_neg k]
        exact ⟨rfl, rfl⟩
      · rw [if_neg (by rw [g]; decide), if_pos k]
        exact ⟨rfl, rfl⟩
      · rw [f26]
        exact hp.2.resolve_right d
      · rw [if_pos g]
        exact ⟨rfl, rfl⟩
    · have e : ahB μ x1 = false := by unfold ahB; rw [decide_eq_true d, Bool.not_true, Bool.and_false]
      rw [e]
      exact ⟨rfl, rfl⟩
  refine sg_X8_ahead_0 ⟨fun c => go true (by unfold ahI; rw [c]; rfl), fun c1 => ⟨fun c => go true (by unfold ahI; rw [c1, c]; rfl), fun c2 => ⟨fun c => go false (by unfold ahI; rw [c1, c2, decide_eq_true c]; rfl), fun c3 => ⟨fun c => go false (by unfold ahI; rw [c1, c2, c, Bool.and_false]; rfl), fun c => go true (by unfold ahI; rw [c1, c2, decide_eq_false c3, c]; rfl)⟩⟩⟩⟩
theorem sg_X8_between_0 {G : GW} {K : Option Value → Mem → Prop} {μ : Mem}   (h : (((isSgM μ (43 : Int32)) = false) → (((isSgM μ (45 : Int32)) = false) → (((isSgM μ (42 : Int32)) = false) → (((isSgM μ (60 : Int32)) = false) → (((isSgM μ (61 : Int32)) = false) → (((isKyM μ (4 : Int32)) = false) → (((isKyM μ (3 : Int32)) = false) → Ev2 G mX8_between 3 98 [(0, .ref 82), (1, .int (-1))] [] μ K) ∧ (((isKyM μ (3 : Int32)) = true) → Ev2 G mX8_between 3 98 [(0, .ref 82), (1, .int 10)] [] μ K)) ∧ (((isKyM μ (4 : Int32)) = true) → Ev2 G mX8_between 3 98 [(0, .ref 82), (1, .int 11)] [] μ K)) ∧ (((isSgM μ (61 : Int32)) = true) → Ev2 G mX8_between 3 98 [(0, .ref 82), (1, .int 14)] [] μ K)) ∧ (((isSgM μ (60 : Int32)) = true) → Ev2 G mX8_between 3 98 [(0, .ref 82), (1, .int 13)] [] μ K)) ∧ (((isSgM μ (42 : Int32)) = true) → Ev2 G mX8_between 3 98 [(0, .ref 82), (1, .int 17)] [] μ K)) ∧ (((isSgM μ (45 : Int32)) = true) → Ev2 G mX8_between 3 98 [(0, .ref 82), (1, .int 16)] [] μ K)) ∧ (((isSgM μ (43 : Int32)) = true) → Ev2 G mX8_between 3 98 [(0, .ref 82), (1, .int 15)] [] μ K)) : Ev2 G mX8_between 3 0 [(0, .ref 82)] [] μ K := by
  refine ev_aload_n dX8_between_0 0 rfl (by decide) ?_
  refine ev_bipush (v := 43) dX8_between_1 rfl ?_
  refine e2_callV (w := .int (bi (isSgM μ (43 : Int32)))) (μ1 := μ) (a := 82) (as := [.int 43]) (st := []) ok_X8_isSign vi_X8_isSign ml_8_142 hcl_8 kd_82 dX8_between_3 rfl rfl (Nat.le_of_ble_eq_true rfl) (Nat.le_of_ble_eq_true rfl) (by decide) (ct_X8_isSign (43) μ) ?_
  refine ev_ifeq_bi (tgt := 14) dX8_between_6 rfl (fun c1 => ?_) (fun c1 => ?_)
  · have h2 := h.1 c1
    refine ev_aload_n dX8_between_14 0 rfl (by decide) ?_
    refine ev_bipush (v := 45) dX8_between_15 rfl ?_
    refine e2_callV (w := .int (bi (isSgM μ (45 : Int32)))) (μ1 := μ) (a := 82) (as := [.int 45]) (st := []) ok_X8_isSign vi_X8_isSign ml_8_142 hcl_8 kd_82 dX8_between_17 rfl rfl (Nat.le_of_ble_eq_true rfl) (Nat.le_of_ble_eq_true rfl) (by decide) (ct_X8_isSign (45) μ) ?_
    refine ev_ifeq_bi (tgt := 28) dX8_between_20 rfl (fun c4 => ?_) (fun c4 => ?_)
    · have h5 := h2.1 c4
      refine ev_aload_n dX8_between_28 0 rfl (by decide) ?_
      refine ev_bipush (v := 42) dX8_between_29 rfl ?_
      refine e2_callV (w := .int (bi (isSgM μ (42 : Int32)))) (μ1 := μ) (a := 82) (as := [.int 42]) (st := []) ok_X8_isSign vi_X8_isSign ml_8_142 hcl_8 kd_82 dX8_between_31 rfl rfl (Nat.le_of_ble_eq_true rfl) (Nat.le_of_ble_eq_true rfl) (by decide) (ct_X8_isSign (42) μ) ?_
      refine ev_ifeq_bi (tgt := 42) dX8_between_34 rfl (fun c7 => ?_) (fun c7 => ?_)
      · have h8 := h5.1 c7
        refine ev_aload_n dX8_between_42 0 rfl (by decide) ?_
        refine ev_bipush (v := 60) dX8_between_43 rfl ?_
        refine e2_callV (w := .int (bi (isSgM μ (60 : Int32)))) (μ1 := μ) (a := 82) (as := [.int 60]) (st := []) ok_X8_isSign vi_X8_isSign ml_8_142 hcl_8 kd_82 dX8_between_45 rfl rfl (Nat.le_of_ble_eq_true rfl) (Nat.le_of_ble_eq_true rfl) (by decide) (ct_X8_isSign (60) μ) ?_
        refine ev_ifeq_bi (tgt := 56) dX8_between_48 rfl (fun c10 => ?_) (fun c10 => ?_)
        · have h11 := h8.1 c10
          refine ev_aload_n dX8_between_56 0 rfl (by decide) ?_
          refine ev_bipush (v := 61) dX8_between_57 rfl ?_
          refine e2_callV (w := .int (bi (isSgM μ (61 : Int32)))) (μ1 := μ) (a := 82) (as := [.int 61]) (st := []) ok_X8_isSign vi_X8_isSign ml_8_142 hcl_8 kd_82 dX8_between_59 rfl rfl (Nat.le_of_ble_eq_true rfl) (Nat.le_of_ble_eq_true rfl) (by decide) (ct_X8_isSign (61) μ) ?_
          refine ev_ifeq_bi (tgt := 70) dX8_between_62 rfl (fun c13 => ?_) (fun c13 => ?_)
          · have h14 := h11.1 c13
            refine ev_aload_n dX8_between_70 0 rfl (by decide) ?_
            refine ev_iconst (v := 4) dX8_between_71 rfl ?_
            refine e2_callV (w := .int (bi (isKyM μ (4 : Int32)))) (μ1 := μ) (a := 82) (as := [.int 4]) (st := []) ok_X8_isKey vi_X8_isKey ml_8_145 hcl_8 kd_82 dX8_between_72 rfl rfl (Nat.le_of_ble_eq_true rfl) (Nat.le_of_ble_eq_true rfl) (by decide) (ct_X8_isKey (4) μ) ?_
            refine ev_ifeq_bi (tgt := 83) dX8_between_75 rfl (fun c16 => ?_) (fun c16 => ?_)
            · have h17 := h14.1 c16
              refine ev_aload_n dX8_between_83 0 rfl (by decide) ?_
              refine ev_iconst (v := 3) dX8_between_84 rfl ?_
              refine e2_callV (w := .int (bi (isKyM μ (3 : Int32)))) (μ1 := μ) (a := 82) (as := [.int 3]) (st := []) ok_X8_isKey vi_X8_isKey ml_8_145 hcl_8 kd_82 dX8_between_85 rfl rfl (Nat.le_of_ble_eq_true rfl) (Nat.le_of_ble_eq_true rfl) (by decide) (ct_X8_isKey (3) μ) ?_
              refine ev_ifeq_bi (tgt := 96) dX8_between_88 rfl (fun c19 => ?_) (fun c19 => ?_)
              · have h20 := h17.1 c19
                refine ev_iconst (v := (-1)) dX8_between_96 rfl ?_
                refine ev_istore_n (lv' := [(0, .ref 82), (1, .int (-1))]) dX8_between_97 (by decide) [1, 0] rfl ?_
                exact h20
              · have h21 := h17.2 c19
                refine ev_bipush (v := 10) dX8_between_91 rfl ?_
                refine ev_goto (tgt := 97) dX8_between_93 rfl ?_
                refine ev_istore_n (lv' := [(0, .ref 82), (1, .int 10)]) dX8_between_97 (by decide) [1, 0] rfl ?_
                exact h21
            · have h18 := h14.2 c16
              refine ev_bipush (v := 11) dX8_between_78 rfl ?_
              refine ev_goto (tgt := 97) dX8_between_80 rfl ?_
              refine ev_istore_n (lv' := [(0, .ref 82), (1, .int 11)]) dX8_between_97 (by decide) [1, 0] rfl ?_
              exact h18
          · have h15 := h11.2 c13
            refine ev_bipush (v := 14) dX8_between_65 rfl ?_
            refine ev_goto (tgt := 97) dX8_between_67 rfl ?_
            refine ev_istore_n (lv' := [(0, .ref 82), (1, .int 14)]) dX8_between_97 (by decide) [1, 0] rfl ?_
            exact h15
        · have h12 := h8.2 c10
          refine ev_bipush (v := 13) dX8_between_51 rfl ?_
          refine ev_goto (tgt := 97) dX8_between_53 rfl ?_
          refine ev_istore_n (lv' := [(0, .ref 82), (1, .int 13)]) dX8_between_97 (by decide) [1, 0] rfl ?_
          exact h12
      · have h9 := h5.2 c7
        refine ev_bipush (v := 17) dX8_between_37 rfl ?_
        refine ev_goto (tgt := 97) dX8_between_39 rfl ?_
        refine ev_istore_n (lv' := [(0, .ref 82), (1, .int 17)]) dX8_between_97 (by decide) [1, 0] rfl ?_
        exact h9
    · have h6 := h2.2 c4
      refine ev_bipush (v := 16) dX8_between_23 rfl ?_
      refine ev_goto (tgt := 97) dX8_between_25 rfl ?_
      refine ev_istore_n (lv' := [(0, .ref 82), (1, .int 16)]) dX8_between_97 (by decide) [1, 0] rfl ?_
      exact h6
  · have h3 := h.2 c1
    refine ev_bipush (v := 15) dX8_between_9 rfl ?_
    refine ev_goto (tgt := 97) dX8_between_11 rfl ?_
    refine ev_istore_n (lv' := [(0, .ref 82), (1, .int 15)]) dX8_between_97 (by decide) [1, 0] rfl ?_
    exact h3
theorem sg_X8_between_98 {G : GW} {K : Option Value → Mem → Prop} {μ : Mem} {x1 : Int32}  (h : ((x1 = (-1)) → K (some (.int 0)) μ) ∧ ((¬ (x1 = (-1))) → ((¬ (rkM x1) = 4) → Ev2 G mX8_between 3 125 [(0, .ref 82), (1, .int x1)] [] μ K) ∧ (((rkM x1) = 4) → (vp_in (μ 82 26) 8) ∧ (((μ 98 (μ 82 26).toNatClampNeg) = 0) → Ev2 G mX8_between 3 125 [(0, .ref 82), (1, .int x1)] [] μ K) ∧ ((¬ ((μ 98 (μ 82 26).toNatClampNeg) = 0)) → K (some (.int 0)) μ)))) : Ev2 G mX8_between 3 98 [(0, .ref 82), (1, .int x1)] [] μ K := by
  refine ev_iload_n dX8_between_98 1 rfl ?_
  refine ev_iconst (v := (-1)) dX8_between_99 rfl ?_
  refine ev_icmp_eq (tgt := 123) dX8_between_100 rfl (fun c1 => ?_) (fun c1 => ?_)
  · have h2 := h.1 c1
    refine ev_iconst (v := 0) dX8_between_123 rfl ?_
    exact ev_ireturn dX8_between_124 rfl rfl rfl rfl ⟨rfl, h2⟩
  · have h3 := h.2 c1
    refine ev_iload_n dX8_between_103 1 rfl ?_
    refine e2_callS (w := .int (rkM x1)) (μ1 := μ) (as := [.int x1]) (st := []) ok_X8_rank sv_X8_rank ml_8_132 dX8_between_104 rfl rfl (Nat.le_of_ble_eq_true rfl) (Nat.le_of_ble_eq_true rfl) (by decide) (ct_X8_rank (x1) μ) ?_
    refine ev_iconst (v := 4) dX8_between_107 rfl ?_
    refine ev_icmp_ne (tgt := 125) dX8_between_108 rfl (fun c4 => ?_) (fun c4 => ?_)
    · have h5 := h3.1 c4
      exact h5
    · have h6 := h3.2 c4
      refine ev_aload_n dX8_between_111 0 rfl (by decide) ?_
      refine ev_getR' fl_8_148 rfl kd_82 rf_82_27 dX8_between_112 ?_
      refine ev_aload_n dX8_between_115 0 rfl (by decide) ?_
      refine ev_getI' (v := (μ 82 26)) fl_8_152 rfl kd_82 rfl dX8_between_116 ?_
      have p7 := h6.1
      have h8 := h6.2
      refine ev_zaload' (v := (μ 98 (μ 82 26).toNatClampNeg)) kd_98 ln_98 p7 rfl dX8_between_119 ?_
      refine ev_if_eq (tgt := 125) dX8_between_120 rfl (fun c9 => ?_) (fun c9 => ?_)
      · have h10 := h8.1 c9
        exact h10
      · have h11 := h8.2 c9
        refine ev_iconst (v := 0) dX8_between_123 rfl ?_
        exact ev_ireturn dX8_between_124 rfl rfl rfl rfl ⟨rfl, h11⟩
theorem sg_X8_between_125 {G : GW} {K : Option Value → Mem → Prop} {μ : Mem} {x1 : Int32}  (h : (daP μ) ∧ (awP (daM μ (rkM x1))) ∧ (((rkM x1) = 4) → (vp_in ((awM (daM μ (rkM x1)) x1) 82 26) 8) ∧ K (some (.int 1)) (mset (awM (daM μ (rkM x1)) x1) 98 ((awM (daM μ (rkM x1)) x1) 82 26).toNatClampNeg 1)) ∧ ((¬ ((rkM x1) = 4)) → (((rkM x1) ≤ 4) → (vp_in ((awM (daM μ (rkM x1)) x1) 82 26) 8) ∧ K (some (.int 1)) (mset (awM (daM μ (rkM x1)) x1) 98 ((awM (daM μ (rkM x1)) x1) 82 26).toNatClampNeg 0)) ∧ ((¬ ((rkM x1) ≤ 4)) → (vp_in ((awM (daM μ (rkM x1)) x1) 82 26) 8) ∧ ((((awM (daM μ (rkM x1)) x1) 98 ((awM (daM μ (rkM x1)) x1) 82 26).toNatClampNeg) = 0) → (vp_in ((awM (daM μ (rkM x1)) x1) 82 26) 8) ∧ K (some (.int 1)) (mset (awM (daM μ (rkM x1)) x1) 98 ((awM (daM μ (rkM x1)) x1) 82 26).toNatClampNeg 0)) ∧ ((¬ (((awM (daM μ (rkM x1)) x1) 98 ((awM (daM μ (rkM x1)) x1) 82 26).toNatClampNeg) = 0)) → (vp_in ((awM (daM μ (rkM x1)) x1) 82 26) 8) ∧ K (some (.int 1)) (mset (awM (daM μ (rkM x1)) x1) 98 ((awM (daM μ (rkM x1)) x1) 82 26).toNatClampNeg 1))))) : Ev2 G mX8_between 3 125 [(0, .ref 82), (1, .int x1)] [] μ K := by
  refine ev_aload_n dX8_between_125 0 rfl (by decide) ?_
  refine ev_iload_n dX8_between_126 1 rfl ?_
  refine e2_callS (w := .int (rkM x1)) (μ1 := μ) (as := [.int x1]) (st := [.ref 82]) ok_X8_rank sv_X8_rank ml_8_132 dX8_between_127 rfl rfl (Nat.le_of_ble_eq_true rfl) (Nat.le_of_ble_eq_true rfl) (by decide) (ct_X8_rank (x1) μ) ?_
  have p1 := h.1
  have h2 := h.2
  refine e2_callVv (μ1 := (daM μ (rkM x1))) (a := 82) (as := [.int (rkM x1)]) (st := []) ok_X8_doAll vi_X8_doAll ml_8_155 hcl_8 kd_82 dX8_between_130 rfl rfl (Nat.le_of_ble_eq_true rfl) (Nat.le_of_ble_eq_true rfl) (by decide) (ct_X8_doAll ((rkM x1)) μ p1) ?_
  refine ev_aload_n dX8_between_133 0 rfl (by decide) ?_
  refine ev_iload_n dX8_between_134 1 rfl ?_
  have p3 := h2.1
  have h4 := h2.2
  refine e2_callVv (μ1 := (awM (daM μ (rkM x1)) x1)) (a := 82) (as := [.int x1]) (st := []) ok_X8_await vi_X8_await ml_8_158 hcl_8 kd_82 dX8_between_135 rfl rfl (Nat.le_of_ble_eq_true rfl) (Nat.le_of_ble_eq_true rfl) (by decide) (ct_X8_await (x1) (daM μ (rkM x1)) p3) ?_
  refine ev_aload_n dX8_between_138 0 rfl (by decide) ?_
  refine ev_getR' fl_8_148 rfl kd_82 rf_82_27 dX8_between_139 ?_
  refine ev_aload_n dX8_between_142 0 rfl (by decide) ?_
  refine ev_getI' (v := ((awM (daM μ (rkM x1)) x1) 82 26)) fl_8_152 rfl kd_82 rfl dX8_between_143 ?_
  refine ev_iload_n dX8_between_146 1 rfl ?_
  refine e2_callS (w := .int (rkM x1)) (μ1 := (awM (daM μ (rkM x1)) x1)) (as := [.int x1]) (st := [.int ((awM (daM μ (rkM x1)) x1) 82 26), .ref 98]) ok_X8_rank sv_X8_rank ml_8_132 dX8_between_147 rfl rfl (Nat.le_of_ble_eq_true rfl) (Nat.le_of_ble_eq_true rfl) (by decide) (ct_X8_rank (x1) (awM (daM μ (rkM x1)) x1)) ?_
  refine ev_iconst (v := 4) dX8_between_150 rfl ?_
  refine ev_icmp_eq (tgt := 174) dX8_between_151 rfl (fun c5 => ?_) (fun c5 => ?_)
  · have h6 := h4.1 c5
    refine ev_iconst (v := 1) dX8_between_174 rfl ?_
    refine ev_goto (tgt := 179) dX8_between_175 rfl ?_
    have p8 := h6.1
    have h9 := h6.2
    refine ev_zastore' (j := ((awM (daM μ (rkM x1)) x1) 82 26).toNatClampNeg) kd_98 ln_98 p8 rfl rfl dX8_between_179 ?_
    refine ev_iconst (v := 1) dX8_between_180 rfl ?_
    exact ev_ireturn dX8_between_181 rfl rfl rfl rfl ⟨rfl, h9⟩
  · have h7 := h4.2 c5
    refine ev_iload_n dX8_between_154 1 rfl ?_
    refine e2_callS (w := .int (rkM x1)) (μ1 := (awM (daM μ (rkM x1)) x1)) (as := [.int x1]) (st := [.int ((awM (daM μ (rkM x1)) x1) 82 26), .ref 98]) ok_X8_rank sv_X8_rank ml_8_132 dX8_between_155 rfl rfl (Nat.le_of_ble_eq_true rfl) (Nat.le_of_ble_eq_true rfl) (by decide) (ct_X8_rank (x1) (awM (daM μ (rkM x1)) x1)) ?_
    refine ev_iconst (v := 4) dX8_between_158 rfl ?_
    refine ev_icmp_le (tgt := 178) dX8_between_159 rfl (fun c10 => ?_) (fun c10 => ?_)
    · have h11 := h7.1 c10
      refine ev_iconst (v := 0) dX8_between_178 rfl ?_
      have p13 := h11.1
      have h14 := h11.2
      refine ev_zastore' (j := ((awM (daM μ (rkM x1)) x1) 82 26).toNatClampNeg) kd_98 ln_98 p13 rfl rfl dX8_between_179 ?_
      refine ev_iconst (v := 1) dX8_between_180 rfl ?_
      exact ev_ireturn dX8_between_181 rfl rfl rfl rfl ⟨rfl, h14⟩
    · have h12 := h7.2 c10
      refine ev_aload_n dX8_between_162 0 rfl (by decide) ?_
      refine ev_getR' fl_8_148 rfl kd_82 rf_82_27 dX8_between_163 ?_
      refine ev_aload_n dX8_between_166 0 rfl (by decide) ?_
      refine ev_getI' (v := ((awM (daM μ (rkM x1)) x1) 82 26)) fl_8_152 rfl kd_82 rfl dX8_between_167 ?_
      have p15 := h12.1
      have h16 := h12.2
      refine ev_zaload' (v := ((awM (daM μ (rkM x1)) x1) 98 ((awM (daM μ (rkM x1)) x1) 82 26).toNatClampNeg)) kd_98 ln_98 p15 rfl dX8_between_170 ?_
      refine ev_if_eq (tgt := 178) dX8_between_171 rfl (fun c17 => ?_) (fun c17 => ?_)
      · have h18 := h16.1 c17
        refine ev_iconst (v := 0) dX8_between_178 rfl ?_
        have p20 := h18.1
        have h21 := h18.2
        refine ev_zastore' (j := ((awM (daM μ (rkM x1)) x1) 82 26).toNatClampNeg) kd_98 ln_98 p20 rfl rfl dX8_between_179 ?_
        refine ev_iconst (v := 1) dX8_between_180 rfl ?_
        exact ev_ireturn dX8_between_181 rfl rfl rfl rfl ⟨rfl, h21⟩
      · have h19 := h16.2 c17
        refine ev_iconst (v := 1) dX8_between_174 rfl ?_
        refine ev_goto (tgt := 179) dX8_between_175 rfl ?_
        have p22 := h19.1
        have h23 := h19.2
        refine ev_zastore' (j := ((awM (daM μ (rkM x1)) x1) 82 26).toNatClampNeg) kd_98 ln_98 p22 rfl rfl dX8_between_179 ?_
        refine ev_iconst (v := 1) dX8_between_180 rfl ?_
        exact ev_ireturn dX8_between_181 rfl rfl rfl rfl ⟨rfl, h23⟩
theorem rk_no : ¬ rkM (-1) = 4 := by decide
theorem ct_X8_between {G : GW} (μ : Mem) (hp : btP μ) : Ev2 G mX8_between 3 0 [(0, .ref 82)] [] μ (fun v μ' => v = some (.int (bi (btB μ))) ∧ μ' = btM μ) := by
  obtain ⟨p1, p2, p34⟩ := hp
  have go : ∀ op : Int32, op = btO μ → Ev2 G mX8_between 3 98 [(0, .ref 82), (1, .int op)] [] μ (fun v μ' => v = some (.int (bi (btB μ))) ∧ μ' = btM μ) := by
    intro op hop
    have yes : btB μ = true → Ev2 G mX8_between 3 125 [(0, .ref 82), (1, .int op)] [] μ (fun v μ' => v = some (.int (bi (btB μ))) ∧ μ' = btM μ) := by
      intro hb
      unfold btM
      obtain ⟨p3, p4⟩ := p34 hb
      rw [hb, if_pos rfl]
      rw [← hop] at p3 p4 ⊢
      refine sg_X8_between_125 ⟨p1, p3, ?_⟩
      unfold cmM
      refine ⟨fun c => ⟨p4, ?_⟩, fun c => ⟨fun d => ⟨p4, ?_⟩, fun d => ⟨p4, fun e => ⟨p4, ?_⟩, fun e => ⟨p4, ?_⟩⟩⟩⟩
      · rw [if_pos c]; exact ⟨rfl, rfl⟩
      · rw [if_neg c, if_pos d]; exact ⟨rfl, rfl⟩
      · rw [if_neg c, if_neg d, if_pos e]; exact ⟨rfl, rfl⟩
      · rw [if_neg c, if_neg d, if_neg e]; exact ⟨rfl, rfl⟩
    refine sg_X8_between_98 ⟨fun c => ?_, fun c => ⟨fun d => yes ?_, fun d => ⟨p2, fun e => yes ?_, fun e => ?_⟩⟩⟩
    · have e : btB μ = false := by unfold btB; rw [← hop, decide_eq_true c]; rfl
      unfold btM
      rw [e]
      exact ⟨rfl, rfl⟩
    · unfold btB
      rw [← hop, decide_eq_false c, decide_eq_false d]
      rfl
    · unfold btB
      rw [← hop, decide_eq_false c, decide_eq_true e, decide_eq_true d]
      rfl
    · have e : btB μ = false := by unfold btB; rw [← hop, decide_eq_true d, decide_eq_false e, decide_eq_false c]; rfl
      unfold btM
      rw [e]
      exact ⟨rfl, rfl⟩
  refine sg_X8_between_0 ⟨fun c1 => ⟨fun c2 => ⟨fun c3 => ⟨fun c4 => ⟨fun c5 => ⟨fun c6 => ⟨fun c7 => go (-1) ?_, fun c7 => go 10 ?_⟩, fun c6 => go 11 ?_⟩, fun c5 => go 14 ?_⟩, fun c4 => go 13 ?_⟩, fun c3 => go 17 ?_⟩, fun c2 => go 16 ?_⟩, fun c1 => go 15 ?_⟩
  · unfold btO; rw [c1, c2, c3, c4, c5, c6, c7]; rfl
  · unfold btO; rw [c1, c2, c3, c4, c5, c6, c7]; rfl
  · unfold btO; rw [c1, c2, c3, c4, c5, c6]; rfl
  · unfold btO; rw [c1, c2, c3, c4, c5]; rfl
  · unfold btO; rw [c1, c2, c3, c4]; rfl
  · unfold btO; rw [c1, c2, c3]; rfl
  · unfold btO; rw [c1, c2]; rfl
  · unfold btO; rw [c1]; rfl
