/-! ===== the class: texts, what they say ===== -/
theorem sg_X6_joined_0 {G : GW} {K : Option Value → Mem → Prop} {μ : Mem} {x0 x1 x2 : Int32}  (h : (x0 = 3 → ((¬ x1 = 0) → K (some (.int 1)) μ) ∧ ((x1 = 0) → ((x2 = 0) → K (some (.int 0)) μ) ∧ ((¬ (x2 = 0)) → K (some (.int 1)) μ))) ∧ (x0 = 4 → ((x1 = 0) → K (some (.int 0)) μ) ∧ ((¬ (x1 = 0)) → ((x2 = 0) → K (some (.int 0)) μ) ∧ ((¬ (x2 = 0)) → K (some (.int 1)) μ))) ∧ (x0 = 5 → K (some (.int (x1 * x2))) μ) ∧ (x0 = 6 → K (some (.int (x1 * x2))) μ) ∧ (x0 = 7 → K (some (.int (x1 * x2))) μ) ∧ (x0 = 8 → K (some (.int (x1 * x2))) μ) ∧ (x0 = 9 → K (some (.int (x1 * x2))) μ) ∧ (x0 = 10 → K (some (.int (x1 * x2))) μ) ∧ (x0 = 11 → K (some (.int (x1 * x2))) μ) ∧ (x0 = 12 → K (some (.int (x1 * x2))) μ) ∧ (x0 = 13 → K (some (.int (x1 * x2))) μ) ∧ (x0 = 14 → K (some (.int (x1 * x2))) μ) ∧ (x0 = 15 → K (some (.int (x1 + x2))) μ) ∧ (x0 = 16 → K (some (.int (x1 - x2))) μ) ∧ (x0 = 17 → K (some (.int (x1 * x2))) μ) ∧ (x0 = 18 → ((x2 ≤ x1) → K (some (.int 0)) μ) ∧ ((¬ (x2 ≤ x1)) → K (some (.int 1)) μ)) ∧ (x0 = 19 → ((¬ x1 = x2) → K (some (.int 0)) μ) ∧ ((x1 = x2) → K (some (.int 1)) μ)) ∧ (¬ x0 = 3 → ¬ x0 = 4 → ¬ x0 = 5 → ¬ x0 = 6 → ¬ x0 = 7 → ¬ x0 = 8 → ¬ x0 = 9 → ¬ x0 = 10 → ¬ x0 = 11 → ¬ x0 = 12 → ¬ x0 = 13 → ¬ x0 = 14 → ¬ x0 = 15 → ¬ x0 = 16 → ¬ x0 = 17 → ¬ x0 = 18 → ¬ x0 = 19 → K (some (.int (x1 * x2))) μ)) : Ev2 G mX6_joined 1 0 [(0, .int x0), (1, .int x1), (2, .int x2)] [] μ K := by
  refine ev_iload_n dX6_joined_0 0 rfl ?_
  rcases Decidable.em (x0 = 3) with c1 | c1
  · have h2 := h.1 c1
    refine ev_tabIn (off := 83) (tgt := 84) 3 dX6_joined_1 c1 (by decide) ?_
    refine ev_iload_n dX6_joined_84 1 rfl ?_
    refine ev_if_ne (tgt := 92) dX6_joined_85 rfl (fun c4 => ?_) (fun c4 => ?_)
    · have h5 := h2.1 c4
      refine ev_iconst (v := 1) dX6_joined_92 rfl ?_
      refine ev_goto (tgt := 97) dX6_joined_93 rfl ?_
      exact ev_ireturn dX6_joined_97 rfl True.intro rfl rfl ⟨rfl, h5⟩
    · have h6 := h2.2 c4
      refine ev_iload_n dX6_joined_88 2 rfl ?_
      refine ev_if_eq (tgt := 96) dX6_joined_89 rfl (fun c7 => ?_) (fun c7 => ?_)
      · have h8 := h6.1 c7
        refine ev_iconst (v := 0) dX6_joined_96 rfl ?_
        exact ev_ireturn dX6_joined_97 rfl True.intro rfl rfl ⟨rfl, h8⟩
      · have h9 := h6.2 c7
        refine ev_iconst (v := 1) dX6_joined_92 rfl ?_
        refine ev_goto (tgt := 97) dX6_joined_93 rfl ?_
        exact ev_ireturn dX6_joined_97 rfl True.intro rfl rfl ⟨rfl, h9⟩
  · have h3 := h.2
    rcases Decidable.em (x0 = 4) with c10 | c10
    · have h11 := h3.1 c10
      refine ev_tabIn (off := 97) (tgt := 98) 4 dX6_joined_1 c10 (by decide) ?_
      refine ev_iload_n dX6_joined_98 1 rfl ?_
      refine ev_if_eq (tgt := 110) dX6_joined_99 rfl (fun c13 => ?_) (fun c13 => ?_)
      · have h14 := h11.1 c13
        refine ev_iconst (v := 0) dX6_joined_110 rfl ?_
        exact ev_ireturn dX6_joined_111 rfl True.intro rfl rfl ⟨rfl, h14⟩
      · have h15 := h11.2 c13
        refine ev_iload_n dX6_joined_102 2 rfl ?_
        refine ev_if_eq (tgt := 110) dX6_joined_103 rfl (fun c16 => ?_) (fun c16 => ?_)
        · have h17 := h15.1 c16
          refine ev_iconst (v := 0) dX6_joined_110 rfl ?_
          exact ev_ireturn dX6_joined_111 rfl True.intro rfl rfl ⟨rfl, h17⟩
        · have h18 := h15.2 c16
          refine ev_iconst (v := 1) dX6_joined_106 rfl ?_
          refine ev_goto (tgt := 111) dX6_joined_107 rfl ?_
          exact ev_ireturn dX6_joined_111 rfl True.intro rfl rfl ⟨rfl, h18⟩
    · have h12 := h3.2
      rcases Decidable.em (x0 = 5) with c19 | c19
      · have h20 := h12.1 c19
        refine ev_tabIn (off := 141) (tgt := 142) 5 dX6_joined_1 c19 (by decide) ?_
        refine ev_iload_n dX6_joined_142 1 rfl ?_
        refine ev_iload_n dX6_joined_143 2 rfl ?_
        refine ev_imul dX6_joined_144 ?_
        exact ev_ireturn dX6_joined_145 rfl True.intro rfl rfl ⟨rfl, h20⟩
      · have h21 := h12.2
        rcases Decidable.em (x0 = 6) with c22 | c22
        · have h23 := h21.1 c22
          refine ev_tabIn (off := 141) (tgt := 142) 6 dX6_joined_1 c22 (by decide) ?_
          refine ev_iload_n dX6_joined_142 1 rfl ?_
          refine ev_iload_n dX6_joined_143 2 rfl ?_
          refine ev_imul dX6_joined_144 ?_
          exact ev_ireturn dX6_joined_145 rfl True.intro rfl rfl ⟨rfl, h23⟩
        · have h24 := h21.2
          rcases Decidable.em (x0 = 7) with c25 | c25
          · have h26 := h24.1 c25
            refine ev_tabIn (off := 141) (tgt := 142) 7 dX6_joined_1 c25 (by decide) ?_
            refine ev_iload_n dX6_joined_142 1 rfl ?_
            refine ev_iload_n dX6_joined_143 2 rfl ?_
            refine ev_imul dX6_joined_144 ?_
            exact ev_ireturn dX6_joined_145 rfl True.intro rfl rfl ⟨rfl, h26⟩
          · have h27 := h24.2
            rcases Decidable.em (x0 = 8) with c28 | c28
            · have h29 := h27.1 c28
              refine ev_tabIn (off := 141) (tgt := 142) 8 dX6_joined_1 c28 (by decide) ?_
              refine ev_iload_n dX6_joined_142 1 rfl ?_
              refine ev_iload_n dX6_joined_143 2 rfl ?_
              refine ev_imul dX6_joined_144 ?_
              exact ev_ireturn dX6_joined_145 rfl True.intro rfl rfl ⟨rfl, h29⟩
            · have h30 := h27.2
              rcases Decidable.em (x0 = 9) with c31 | c31
              · have h32 := h30.1 c31
                refine ev_tabIn (off := 141) (tgt := 142) 9 dX6_joined_1 c31 (by decide) ?_
                refine ev_iload_n dX6_joined_142 1 rfl ?_
                refine ev_iload_n dX6_joined_143 2 rfl ?_
                refine ev_imul dX6_joined_144 ?_
                exact ev_ireturn dX6_joined_145 rfl True.intro rfl rfl ⟨rfl, h32⟩
              · have h33 := h30.2
                rcases Decidable.em (x0 = 10) with c34 | c34
                · have h35 := h33.1 c34
                  refine ev_tabIn (off := 141) (tgt := 142) 10 dX6_joined_1 c34 (by decide) ?_
                  refine ev_iload_n dX6_joined_142 1 rfl ?_
                  refine ev_iload_n dX6_joined_143 2 rfl ?_
                  refine ev_imul dX6_joined_144 ?_
                  exact ev_ireturn dX6_joined_145 rfl True.intro rfl rfl ⟨rfl, h35⟩
                · have h36 := h33.2
                  rcases Decidable.em (x0 = 11) with c37 | c37
                  · have h38 := h36.1 c37
                    refine ev_tabIn (off := 141) (tgt := 142) 11 dX6_joined_1 c37 (by decide) ?_
                    refine ev_iload_n dX6_joined_142 1 rfl ?_
                    refine ev_iload_n dX6_joined_143 2 rfl ?_
                    refine ev_imul dX6_joined_144 ?_
                    exact ev_ireturn dX6_joined_145 rfl True.intro rfl rfl ⟨rfl, h38⟩
                  · have h39 := h36.2
                    rcases Decidable.em (x0 = 12) with c40 | c40
                    · have h41 := h39.1 c40
                      refine ev_tabIn (off := 141) (tgt := 142) 12 dX6_joined_1 c40 (by decide) ?_
                      refine ev_iload_n dX6_joined_142 1 rfl ?_
                      refine ev_iload_n dX6_joined_143 2 rfl ?_
                      refine ev_imul dX6_joined_144 ?_
                      exact ev_ireturn dX6_joined_145 rfl True.intro rfl rfl ⟨rfl, h41⟩
                    · have h42 := h39.2
                      rcases Decidable.em (x0 = 13) with c43 | c43
                      · have h44 := h42.1 c43
                        refine ev_tabIn (off := 141) (tgt := 142) 13 dX6_joined_1 c43 (by decide) ?_
                        refine ev_iload_n dX6_joined_142 1 rfl ?_
                        refine ev_iload_n dX6_joined_143 2 rfl ?_
                        refine ev_imul dX6_joined_144 ?_
                        exact ev_ireturn dX6_joined_145 rfl True.intro rfl rfl ⟨rfl, h44⟩
                      · have h45 := h42.2
                        rcases Decidable.em (x0 = 14) with c46 | c46
                        · have h47 := h45.1 c46
                          refine ev_tabIn (off := 141) (tgt := 142) 14 dX6_joined_1 c46 (by decide) ?_
                          refine ev_iload_n dX6_joined_142 1 rfl ?_
                          refine ev_iload_n dX6_joined_143 2 rfl ?_
                          refine ev_imul dX6_joined_144 ?_
                          exact ev_ireturn dX6_joined_145 rfl True.intro rfl rfl ⟨rfl, h47⟩
                        · have h48 := h45.2
                          rcases Decidable.em (x0 = 15) with c49 | c49
                          · have h50 := h48.1 c49
                            refine ev_tabIn (off := 133) (tgt := 134) 15 dX6_joined_1 c49 (by decide) ?_
                            refine ev_iload_n dX6_joined_134 1 rfl ?_
                            refine ev_iload_n dX6_joined_135 2 rfl ?_
                            refine ev_iadd dX6_joined_136 ?_
                            exact ev_ireturn dX6_joined_137 rfl True.intro rfl rfl ⟨rfl, h50⟩
                          · have h51 := h48.2
                            rcases Decidable.em (x0 = 16) with c52 | c52
                            · have h53 := h51.1 c52
                              refine ev_tabIn (off := 137) (tgt := 138) 16 dX6_joined_1 c52 (by decide) ?_
                              refine ev_iload_n dX6_joined_138 1 rfl ?_
                              refine ev_iload_n dX6_joined_139 2 rfl ?_
                              refine ev_isub dX6_joined_140 ?_
                              exact ev_ireturn dX6_joined_141 rfl True.intro rfl rfl ⟨rfl, h53⟩
                            · have h54 := h51.2
                              rcases Decidable.em (x0 = 17) with c55 | c55
                              · have h56 := h54.1 c55
                                refine ev_tabIn (off := 141) (tgt := 142) 17 dX6_joined_1 c55 (by decide) ?_
                                refine ev_iload_n dX6_joined_142 1 rfl ?_
                                refine ev_iload_n dX6_joined_143 2 rfl ?_
                                refine ev_imul dX6_joined_144 ?_
                                exact ev_ireturn dX6_joined_145 rfl True.intro rfl rfl ⟨rfl, h56⟩
                              · have h57 := h54.2
                                rcases Decidable.em (x0 = 18) with c58 | c58
                                · have h59 := h57.1 c58
                                  refine ev_tabIn (off := 111) (tgt := 112) 18 dX6_joined_1 c58 (by decide) ?_
                                  refine ev_iload_n dX6_joined_112 1 rfl ?_
                                  refine ev_iload_n dX6_joined_113 2 rfl ?_
                                  refine ev_icmp_ge (tgt := 121) dX6_joined_114 rfl (fun c61 => ?_) (fun c61 => ?_)
                                  · have h62 := h59.1 c61
                                    refine ev_iconst (v := 0) dX6_joined_121 rfl ?_
                                    exact ev_ireturn dX6_joined_122 rfl True.intro rfl rfl ⟨rfl, h62⟩
                                  · have h63 := h59.2 c61
                                    refine ev_iconst (v := 1) dX6_joined_117 rfl ?_
                                    refine ev_goto (tgt := 122) dX6_joined_118 rfl ?_
                                    exact ev_ireturn dX6_joined_122 rfl True.intro rfl rfl ⟨rfl, h63⟩
                                · have h60 := h57.2
                                  rcases Decidable.em (x0 = 19) with c64 | c64
                                  · have h65 := h60.1 c64
                                    refine ev_tabIn (off := 122) (tgt := 123) 19 dX6_joined_1 c64 (by decide) ?_
                                    refine ev_iload_n dX6_joined_123 1 rfl ?_
                                    refine ev_iload_n dX6_joined_124 2 rfl ?_
                                    refine ev_icmp_ne (tgt := 132) dX6_joined_125 rfl (fun c67 => ?_) (fun c67 => ?_)
                                    · have h68 := h65.1 c67
                                      refine ev_iconst (v := 0) dX6_joined_132 rfl ?_
                                      exact ev_ireturn dX6_joined_133 rfl True.intro rfl rfl ⟨rfl, h68⟩
                                    · have h69 := h65.2 c67
                                      refine ev_iconst (v := 1) dX6_joined_128 rfl ?_
                                      refine ev_goto (tgt := 133) dX6_joined_129 rfl ?_
                                      exact ev_ireturn dX6_joined_133 rfl True.intro rfl rfl ⟨rfl, h69⟩
                                  · have h66 := h60.2
                                    have tc1 := tz_ne (z := 3) c1 (by decide)
                                    have tc10 := tz_ne (z := 4) c10 (by decide)
                                    have tc19 := tz_ne (z := 5) c19 (by decide)
                                    have tc22 := tz_ne (z := 6) c22 (by decide)
                                    have tc25 := tz_ne (z := 7) c25 (by decide)
                                    have tc28 := tz_ne (z := 8) c28 (by decide)
                                    have tc31 := tz_ne (z := 9) c31 (by decide)
                                    have tc34 := tz_ne (z := 10) c34 (by decide)
                                    have tc37 := tz_ne (z := 11) c37 (by decide)
                                    have tc40 := tz_ne (z := 12) c40 (by decide)
                                    have tc43 := tz_ne (z := 13) c43 (by decide)
                                    have tc46 := tz_ne (z := 14) c46 (by decide)
                                    have tc49 := tz_ne (z := 15) c49 (by decide)
                                    have tc52 := tz_ne (z := 16) c52 (by decide)
                                    have tc55 := tz_ne (z := 17) c55 (by decide)
                                    have tc58 := tz_ne (z := 18) c58 (by decide)
                                    have tc64 := tz_ne (z := 19) c64 (by decide)
                                    have h70 := h66 c1 c10 c19 c22 c25 c28 c31 c34 c37 c40 c43 c46 c49 c52 c55 c58 c64
                                    refine ev_tabOut (tgt := 142) dX6_joined_1 (by omega) rfl ?_
                                    refine ev_iload_n dX6_joined_142 1 rfl ?_
                                    refine ev_iload_n dX6_joined_143 2 rfl ?_
                                    refine ev_imul dX6_joined_144 ?_
                                    exact ev_ireturn dX6_joined_145 rfl True.intro rfl rfl ⟨rfl, h70⟩
theorem ct_X6_joined {G : GW} (x0 x1 x2 : Int32) (μ : Mem) : Ev2 G mX6_joined 1 0 [(0, .int x0), (1, .int x1), (2, .int x2)] [] μ (fun v μ' => v = some (.int (joinF x0 x1 x2)) ∧ μ' = μ) := by
  refine sg_X6_joined_0 ?_
  repeat' (first | intro _ | apply And.intro)
  all_goals simp_all [joinF, bi, ← Int32.not_lt]
theorem sg_X6_push_0 {G : GW} {K : Option Value → Mem → Prop} {μ : Mem} {o : Nat} {x1 x2 : Int32} (ho : isTx o) (h : ((x2 < 40) → (vp_in x2 40) ∧ K (some (.int (x2 + 1))) (mset μ (o + 3) x2.toNatClampNeg x1)) ∧ ((¬ (x2 < 40)) → K (some (.int x2)) μ)) : Ev2 G mX6_push 1 0 [(0, .ref o), (1, .int x1), (2, .int x2)] [] μ K := by
  refine ev_iload_n dX6_push_0 2 rfl ?_
  refine ev_aload_n dX6_push_1 0 rfl (nzTx ho) ?_
  refine ev_getR' fl_6_18 rfl (kdTx ho) (rfTx2 ho) dX6_push_2 ?_
  refine ev_alen' (v := 40) (by rw [show S0.2.2.1 (o + 3) = _ from (kdTx2 ho)]; decide) (lnTx2 ho) rfl dX6_push_5 ?_
  refine ev_icmp_lt (tgt := 11) dX6_push_6 rfl (fun c1 => ?_) (fun c1 => ?_)
  · have h2 := h.1 c1
    refine ev_aload_n dX6_push_11 0 rfl (nzTx ho) ?_
    refine ev_getR' fl_6_18 rfl (kdTx ho) (rfTx2 ho) dX6_push_12 ?_
    refine ev_iload_n dX6_push_15 2 rfl ?_
    refine ev_iload_n dX6_push_16 1 rfl ?_
    have p4 := h2.1
    have h5 := h2.2
    refine ev_iastore' (j := x2.toNatClampNeg) (kdTx2 ho) (lnTx2 ho) p4 rfl dX6_push_17 ?_
    refine ev_iload_n dX6_push_18 2 rfl ?_
    refine ev_iconst (v := 1) dX6_push_19 rfl ?_
    refine ev_iadd dX6_push_20 ?_
    exact ev_ireturn dX6_push_21 rfl True.intro rfl rfl ⟨rfl, h5⟩
  · have h3 := h.2 c1
    refine ev_iload_n dX6_push_9 2 rfl ?_
    exact ev_ireturn dX6_push_10 rfl True.intro rfl rfl ⟨rfl, h3⟩
theorem ct_X6_push {G : GW} (o : Nat) (ho : isTx o) (x1 x2 : Int32) (μ : Mem) (hp : vp_in x2 40) : Ev2 G mX6_push 1 0 [(0, .ref o), (1, .int x1), (2, .int x2)] [] μ (fun v μ' => v = some (.int (x2 + 1)) ∧ μ' = mset μ (o + 3) x2.toNatClampNeg x1) := by
  refine sg_X6_push_0 ho ⟨fun c => ⟨hp, rfl, rfl⟩, fun c => ?_⟩
  exact absurd (Int32.lt_iff_toInt_lt.mpr (vp_in_iff.mp hp).2) c
def takeOK (s x : Int32) : Prop := validS s ∧ ∃ h : Nat, h ≤ 40 ∧ x = nI h ∧ okE (codeK s) h
theorem nI_m1 {h : Nat} (h1 : 1 ≤ h) : nI h - 1 = nI (h - 1) := pk_sub (b := 1) h1
theorem nI_m2 {h : Nat} (h1 : 2 ≤ h) : nI h - 2 = nI (h - 2) := pk_sub (b := 2) h1
theorem codeK_name {s : Int32} (h : inB s 6 11 = true) : ∃ k : Nat, k < 6 ∧ s = nI (6 + k) ∧ codeK s = nI k := by
  obtain ⟨h1, h2⟩ := inB_t.mp h
  have e1 : (6 : Int32).toInt = 6 := by decide
  have e2 : (11 : Int32).toInt = 11 := by decide
  rw [i_le] at h1 h2
  have hs : s = nI (6 + (s.toInt.toNat - 6)) := by
    rw [i_eq, nI_toInt (by omega)]
    omega
  refine ⟨s.toInt.toNat - 6, by omega, hs, ?_⟩
  have hk : s.toInt.toNat - 6 < 6 := by omega
  generalize s.toInt.toNat - 6 = k at hs hk
  subst hs
  rcases (show k = 0 ∨ k = 1 ∨ k = 2 ∨ k = 3 ∨ k = 4 ∨ k = 5 by omega) with rfl | rfl | rfl | rfl | rfl | rfl <;> decide
theorem codeK_num {s : Int32} (h : 100 ≤ s) : codeK s = -1 - (s - 100) := if_pos h
theorem codeK_neg {s : Int32} (h : 100 ≤ s ∧ s ≤ 10099) : codeK s < 0 := by
  rw [codeK_num h.1]
  obtain ⟨h1, h2⟩ := h
  have e1 : (100 : Int32).toInt = 100 := by decide
  have e2 : (10099 : Int32).toInt = 10099 := by decide
  have e4 : (-1 : Int32).toInt = -1 := by decide
  have e5 : (0 : Int32).toInt = 0 := by decide
  rw [i_le] at h1 h2
  have e3 : (s - 100).toInt = s.toInt - 100 := by rw [i_sub (by omega), e1]
  rw [i_lt, i_sub (by omega)]
  omega
theorem sg_X6_take_0 {G : GW} {K : Option Value → Mem → Prop} {μ : Mem} {o r3 : Nat} {x1 x2 x4 : Int32} (ho : isTx o) (hr3 : isHo r3) (h : ((x1 < 100) → (((inB x1 (6 : Int32) (11 : Int32)) = false) → ((x1 = 5) → ((x2 < 1) → K (some (.int x2)) μ) ∧ ((¬ (x2 < 1)) → (vp_in (x2 - 1) 40) ∧ ∀ y15 : Int32, y15 = (μ (o + 3) (x2 - 1).toNatClampNeg) → ((¬ x1 = 23) → ((¬ y15 = 0) → (vp_in (x2 - 1) 40) ∧ K (some (.int x2)) (mset μ (o + 3) (x2 - 1).toNatClampNeg 0)) ∧ ((y15 = 0) → (vp_in (x2 - 1) 40) ∧ K (some (.int x2)) (mset μ (o + 3) (x2 - 1).toNatClampNeg 1))) ∧ ((x1 = 23) → (vp_in (x2 - 1) 40) ∧ K (some (.int x2)) (mset μ (o + 3) (x2 - 1).toNatClampNeg (-y15))))) ∧ ((¬ (x1 = 5)) → ((¬ x1 = 23) → ((2 ≤ x2) → (vp_in (x2 - 2) 40) ∧ (vp_in (x2 - 1) 40) ∧ (vp_in (x2 - 2) 40) ∧ K (some (.int (x2 - 1))) (mset μ (o + 3) (x2 - 2).toNatClampNeg (joinF x1 (μ (o + 3) (x2 - 2).toNatClampNeg) (μ (o + 3) (x2 - 1).toNatClampNeg)))) ∧ ((¬ (2 ≤ x2)) → K (some (.int x2)) μ)) ∧ ((x1 = 23) → ((x2 < 1) → K (some (.int x2)) μ) ∧ ((¬ (x2 < 1)) → (vp_in (x2 - 1) 40) ∧ ∀ y46 : Int32, y46 = (μ (o + 3) (x2 - 1).toNatClampNeg) → ((¬ x1 = 23) → ((¬ y46 = 0) → (vp_in (x2 - 1) 40) ∧ K (some (.int x2)) (mset μ (o + 3) (x2 - 1).toNatClampNeg 0)) ∧ ((y46 = 0) → (vp_in (x2 - 1) 40) ∧ K (some (.int x2)) (mset μ (o + 3) (x2 - 1).toNatClampNeg 1))) ∧ ((x1 = 23) → (vp_in (x2 - 1) 40) ∧ K (some (.int x2)) (mset μ (o + 3) (x2 - 1).toNatClampNeg (-y46))))))) ∧ (((inB x1 (6 : Int32) (11 : Int32)) = true) → (vp_in x2 40) ∧ K (some (.int (x2 + 1))) (mset μ (o + 3) x2.toNatClampNeg (namedF μ r3 x1 x4)))) ∧ ((¬ (x1 < 100)) → (vp_in x2 40) ∧ K (some (.int (x2 + 1))) (mset μ (o + 3) x2.toNatClampNeg (x1 - 100)))) : Ev2 G mX6_take 2 0 [(0, .ref o), (1, .int x1), (2, .int x2), (3, .ref r3), (4, .int x4)] [] μ K := by
  refine ev_iload_n dX6_take_0 1 rfl ?_
  refine ev_bipush (v := 100) dX6_take_1 rfl ?_
  refine ev_icmp_lt (tgt := 16) dX6_take_3 rfl (fun c1 => ?_) (fun c1 => ?_)
  · have h2 := h.1 c1
    refine ev_iload_n dX6_take_16 1 rfl ?_
    refine ev_bipush (v := 6) dX6_take_17 rfl ?_
    refine ev_bipush (v := 11) dX6_take_19 rfl ?_
    refine e2_callSN (w := .int (bi (inB x1 (6 : Int32) (11 : Int32)))) (μ1 := μ) (as := [.int x1, .int 6, .int 11]) (st := []) ok_X7_isWithin sv_X7_isWithin nw_6_33 dX6_take_21 rfl rfl (Nat.le_of_ble_eq_true rfl) (Nat.le_of_ble_eq_true rfl) (by decide) (ct_X7_isWithin (x1) (6) (11) μ) ?_
    refine ev_ifeq_bi (tgt := 40) dX6_take_24 rfl (fun c4 => ?_) (fun c4 => ?_)
    · have h5 := h2.1 c4
      refine ev_iload_n dX6_take_40 1 rfl ?_
      refine ev_iconst (v := 5) dX6_take_41 rfl ?_
      refine ev_icmp_eq (tgt := 51) dX6_take_42 rfl (fun c7 => ?_) (fun c7 => ?_)
      · have h8 := h5.1 c7
        refine ev_iload_n dX6_take_51 2 rfl ?_
        refine ev_iconst (v := 1) dX6_take_52 rfl ?_
        refine ev_icmp_lt (tgt := 96) dX6_take_53 rfl (fun c10 => ?_) (fun c10 => ?_)
        · have h11 := h8.1 c10
          refine ev_iload_n dX6_take_96 2 rfl ?_
          exact ev_ireturn dX6_take_97 rfl True.intro rfl rfl ⟨rfl, h11⟩
        · have h12 := h8.2 c10
          refine ev_aload_n dX6_take_56 0 rfl (nzTx ho) ?_
          refine ev_getR' fl_6_18 rfl (kdTx ho) (rfTx2 ho) dX6_take_57 ?_
          refine ev_iload_n dX6_take_60 2 rfl ?_
          refine ev_iconst (v := 1) dX6_take_61 rfl ?_
          refine ev_isub dX6_take_62 ?_
          have p13 := h12.1
          have h14 := h12.2
          refine ev_iaload' (v := (μ (o + 3) (x2 - 1).toNatClampNeg)) (kdTx2 ho) (lnTx2 ho) p13 rfl dX6_take_63 ?_
          refine ev_top (fun y15 ey15 => ?_)
          have h16 := h14 y15 ey15
          refine ev_istore (lv' := [(0, .ref o), (1, .int x1), (2, .int x2), (3, .ref r3), (4, .int x4), (5, .int y15)]) dX6_take_64 (by decide) [1, 2, 3, 4, 5, 0] rfl ?_
          refine ev_aload_n dX6_take_66 0 rfl (nzTx ho) ?_
          refine ev_getR' fl_6_18 rfl (kdTx ho) (rfTx2 ho) dX6_take_67 ?_
          refine ev_iload_n dX6_take_70 2 rfl ?_
          refine ev_iconst (v := 1) dX6_take_71 rfl ?_
          refine ev_isub dX6_take_72 ?_
          refine ev_iload_n dX6_take_73 1 rfl ?_
          refine ev_bipush (v := 23) dX6_take_74 rfl ?_
          refine ev_icmp_ne (tgt := 85) dX6_take_76 rfl (fun c17 => ?_) (fun c17 => ?_)
          · have h18 := h16.1 c17
            refine ev_iload dX6_take_85 5 rfl ?_
            refine ev_if_ne (tgt := 94) dX6_take_87 rfl (fun c20 => ?_) (fun c20 => ?_)
            · have h21 := h18.1 c20
              refine ev_iconst (v := 0) dX6_take_94 rfl ?_
              have p23 := h21.1
              have h24 := h21.2
              refine ev_iastore' (j := (x2 - 1).toNatClampNeg) (kdTx2 ho) (lnTx2 ho) p23 rfl dX6_take_95 ?_
              refine ev_iload_n dX6_take_96 2 rfl ?_
              exact ev_ireturn dX6_take_97 rfl True.intro rfl rfl ⟨rfl, h24⟩
            · have h22 := h18.2 c20
              refine ev_iconst (v := 1) dX6_take_90 rfl ?_
              refine ev_goto (tgt := 95) dX6_take_91 rfl ?_
              have p25 := h22.1
              have h26 := h22.2
              refine ev_iastore' (j := (x2 - 1).toNatClampNeg) (kdTx2 ho) (lnTx2 ho) p25 rfl dX6_take_95 ?_
              refine ev_iload_n dX6_take_96 2 rfl ?_
              exact ev_ireturn dX6_take_97 rfl True.intro rfl rfl ⟨rfl, h26⟩
          · have h19 := h16.2 c17
            refine ev_iload dX6_take_79 5 rfl ?_
            refine ev_ineg dX6_take_81 ?_
            refine ev_goto (tgt := 95) dX6_take_82 rfl ?_
            have p27 := h19.1
            have h28 := h19.2
            refine ev_iastore' (j := (x2 - 1).toNatClampNeg) (kdTx2 ho) (lnTx2 ho) p27 rfl dX6_take_95 ?_
            refine ev_iload_n dX6_take_96 2 rfl ?_
            exact ev_ireturn dX6_take_97 rfl True.intro rfl rfl ⟨rfl, h28⟩
      · have h9 := h5.2 c7
        refine ev_iload_n dX6_take_45 1 rfl ?_
        refine ev_bipush (v := 23) dX6_take_46 rfl ?_
        refine ev_icmp_ne (tgt := 98) dX6_take_48 rfl (fun c29 => ?_) (fun c29 => ?_)
        · have h30 := h9.1 c29
          refine ev_iload_n dX6_take_98 2 rfl ?_
          refine ev_iconst (v := 2) dX6_take_99 rfl ?_
          refine ev_icmp_ge (tgt := 105) dX6_take_100 rfl (fun c32 => ?_) (fun c32 => ?_)
          · have h33 := h30.1 c32
            refine ev_aload_n dX6_take_105 0 rfl (nzTx ho) ?_
            refine ev_getR' fl_6_18 rfl (kdTx ho) (rfTx2 ho) dX6_take_106 ?_
            refine ev_iload_n dX6_take_109 2 rfl ?_
            refine ev_iconst (v := 2) dX6_take_110 rfl ?_
            refine ev_isub dX6_take_111 ?_
            refine ev_iload_n dX6_take_112 1 rfl ?_
            refine ev_aload_n dX6_take_113 0 rfl (nzTx ho) ?_
            refine ev_getR' fl_6_18 rfl (kdTx ho) (rfTx2 ho) dX6_take_114 ?_
            refine ev_iload_n dX6_take_117 2 rfl ?_
            refine ev_iconst (v := 2) dX6_take_118 rfl ?_
            refine ev_isub dX6_take_119 ?_
            have p35 := h33.1
            have h36 := h33.2
            refine ev_iaload' (v := (μ (o + 3) (x2 - 2).toNatClampNeg)) (kdTx2 ho) (lnTx2 ho) p35 rfl dX6_take_120 ?_
            refine ev_aload_n dX6_take_121 0 rfl (nzTx ho) ?_
            refine ev_getR' fl_6_18 rfl (kdTx ho) (rfTx2 ho) dX6_take_122 ?_
            refine ev_iload_n dX6_take_125 2 rfl ?_
            refine ev_iconst (v := 1) dX6_take_126 rfl ?_
            refine ev_isub dX6_take_127 ?_
            have p37 := h36.1
            have h38 := h36.2
            refine ev_iaload' (v := (μ (o + 3) (x2 - 1).toNatClampNeg)) (kdTx2 ho) (lnTx2 ho) p37 rfl dX6_take_128 ?_
            refine e2_callS (w := .int (joinF x1 (μ (o + 3) (x2 - 2).toNatClampNeg) (μ (o + 3) (x2 - 1).toNatClampNeg))) (μ1 := μ) (as := [.int x1, .int (μ (o + 3) (x2 - 2).toNatClampNeg), .int (μ (o + 3) (x2 - 1).toNatClampNeg)]) (st := [.int (x2 - 2), .ref (o + 3)]) ok_X6_joined sv_X6_joined ml_6_42 dX6_take_129 rfl rfl (Nat.le_of_ble_eq_true rfl) (Nat.le_of_ble_eq_true rfl) (by decide) (ct_X6_joined (x1) ((μ (o + 3) (x2 - 2).toNatClampNeg)) ((μ (o + 3) (x2 - 1).toNatClampNeg)) μ) ?_
            have p39 := h38.1
            have h40 := h38.2
            refine ev_iastore' (j := (x2 - 2).toNatClampNeg) (kdTx2 ho) (lnTx2 ho) p39 rfl dX6_take_132 ?_
            refine ev_iload_n dX6_take_133 2 rfl ?_
            refine ev_iconst (v := 1) dX6_take_134 rfl ?_
            refine ev_isub dX6_take_135 ?_
            exact ev_ireturn dX6_take_136 rfl True.intro rfl rfl ⟨rfl, h40⟩
          · have h34 := h30.2 c32
            refine ev_iload_n dX6_take_103 2 rfl ?_
            exact ev_ireturn dX6_take_104 rfl True.intro rfl rfl ⟨rfl, h34⟩
        · have h31 := h9.2 c29
          refine ev_iload_n dX6_take_51 2 rfl ?_
          refine ev_iconst (v := 1) dX6_take_52 rfl ?_
          refine ev_icmp_lt (tgt := 96) dX6_take_53 rfl (fun c41 => ?_) (fun c41 => ?_)
          · have h42 := h31.1 c41
            refine ev_iload_n dX6_take_96 2 rfl ?_
            exact ev_ireturn dX6_take_97 rfl True.intro rfl rfl ⟨rfl, h42⟩
          · have h43 := h31.2 c41
            refine ev_aload_n dX6_take_56 0 rfl (nzTx ho) ?_
            refine ev_getR' fl_6_18 rfl (kdTx ho) (rfTx2 ho) dX6_take_57 ?_
            refine ev_iload_n dX6_take_60 2 rfl ?_
            refine ev_iconst (v := 1) dX6_take_61 rfl ?_
            refine ev_isub dX6_take_62 ?_
            have p44 := h43.1
            have h45 := h43.2
            refine ev_iaload' (v := (μ (o + 3) (x2 - 1).toNatClampNeg)) (kdTx2 ho) (lnTx2 ho) p44 rfl dX6_take_63 ?_
            refine ev_top (fun y46 ey46 => ?_)
            have h47 := h45 y46 ey46
            refine ev_istore (lv' := [(0, .ref o), (1, .int x1), (2, .int x2), (3, .ref r3), (4, .int x4), (5, .int y46)]) dX6_take_64 (by decide) [1, 2, 3, 4, 5, 0] rfl ?_
            refine ev_aload_n dX6_take_66 0 rfl (nzTx ho) ?_
            refine ev_getR' fl_6_18 rfl (kdTx ho) (rfTx2 ho) dX6_take_67 ?_
            refine ev_iload_n dX6_take_70 2 rfl ?_
            refine ev_iconst (v := 1) dX6_take_71 rfl ?_
            refine ev_isub dX6_take_72 ?_
            refine ev_iload_n dX6_take_73 1 rfl ?_
            refine ev_bipush (v := 23) dX6_take_74 rfl ?_
            refine ev_icmp_ne (tgt := 85) dX6_take_76 rfl (fun c48 => ?_) (fun c48 => ?_)
            · have h49 := h47.1 c48
              refine ev_iload dX6_take_85 5 rfl ?_
              refine ev_if_ne (tgt := 94) dX6_take_87 rfl (fun c51 => ?_) (fun c51 => ?_)
              · have h52 := h49.1 c51
                refine ev_iconst (v := 0) dX6_take_94 rfl ?_
                have p54 := h52.1
                have h55 := h52.2
                refine ev_iastore' (j := (x2 - 1).toNatClampNeg) (kdTx2 ho) (lnTx2 ho) p54 rfl dX6_take_95 ?_
                refine ev_iload_n dX6_take_96 2 rfl ?_
                exact ev_ireturn dX6_take_97 rfl True.intro rfl rfl ⟨rfl, h55⟩
              · have h53 := h49.2 c51
                refine ev_iconst (v := 1) dX6_take_90 rfl ?_
                refine ev_goto (tgt := 95) dX6_take_91 rfl ?_
                have p56 := h53.1
                have h57 := h53.2
                refine ev_iastore' (j := (x2 - 1).toNatClampNeg) (kdTx2 ho) (lnTx2 ho) p56 rfl dX6_take_95 ?_
                refine ev_iload_n dX6_take_96 2 rfl ?_
                exact ev_ireturn dX6_take_97 rfl True.intro rfl rfl ⟨rfl, h57⟩
            · have h50 := h47.2 c48
              refine ev_iload dX6_take_79 5 rfl ?_
              refine ev_ineg dX6_take_81 ?_
              refine ev_goto (tgt := 95) dX6_take_82 rfl ?_
              have p58 := h50.1
              have h59 := h50.2
              refine ev_iastore' (j := (x2 - 1).toNatClampNeg) (kdTx2 ho) (lnTx2 ho) p58 rfl dX6_take_95 ?_
              refine ev_iload_n dX6_take_96 2 rfl ?_
              exact ev_ireturn dX6_take_97 rfl True.intro rfl rfl ⟨rfl, h59⟩
    · have h6 := h2.2 c4
      refine ev_aload_n dX6_take_27 0 rfl (nzTx ho) ?_
      refine ev_aload_n dX6_take_28 3 rfl (nzHo hr3) ?_
      refine ev_iload_n dX6_take_29 1 rfl ?_
      refine ev_iload dX6_take_30 4 rfl ?_
      refine e2_callV (w := .int (namedF μ r3 x1 x4)) (μ1 := μ) (a := r3) (as := [.int x1, .int x4]) (st := [.ref o]) ok_X0_named vi_X0_named ml_6_37 hcl_0 (kdHo hr3) dX6_take_32 rfl rfl (Nat.le_of_ble_eq_true rfl) (Nat.le_of_ble_eq_true rfl) (by decide) (ct_X0_named r3 hr3 (x1) (x4) μ) ?_
      refine ev_iload_n dX6_take_35 2 rfl ?_
      have p60 := h6.1
      have h61 := h6.2
      refine e2_callV (w := .int (x2 + 1)) (μ1 := (mset μ (o + 3) x2.toNatClampNeg (namedF μ r3 x1 x4))) (a := o) (as := [.int (namedF μ r3 x1 x4), .int x2]) (st := []) ok_X6_push vi_X6_push ml_6_29 hcl_6 (kdTx ho) dX6_take_36 rfl rfl (Nat.le_of_ble_eq_true rfl) (Nat.le_of_ble_eq_true rfl) (by decide) (ct_X6_push o ho ((namedF μ r3 x1 x4)) (x2) μ p60) ?_
      exact ev_ireturn dX6_take_39 rfl True.intro rfl rfl ⟨rfl, h61⟩
  · have h3 := h.2 c1
    refine ev_aload_n dX6_take_6 0 rfl (nzTx ho) ?_
    refine ev_iload_n dX6_take_7 1 rfl ?_
    refine ev_bipush (v := 100) dX6_take_8 rfl ?_
    refine ev_isub dX6_take_10 ?_
    refine ev_iload_n dX6_take_11 2 rfl ?_
    have p62 := h3.1
    have h63 := h3.2
    refine e2_callV (w := .int (x2 + 1)) (μ1 := (mset μ (o + 3) x2.toNatClampNeg (x1 - 100))) (a := o) (as := [.int (x1 - 100), .int x2]) (st := []) ok_X6_push vi_X6_push ml_6_29 hcl_6 (kdTx ho) dX6_take_12 rfl rfl (Nat.le_of_ble_eq_true rfl) (Nat.le_of_ble_eq_true rfl) (by decide) (ct_X6_push o ho ((x1 - 100)) (x2) μ p62) ?_
    exact ev_ireturn dX6_take_15 rfl True.intro rfl rfl ⟨rfl, h63⟩
theorem lt6_not {c : Int32} (h : 6 ≤ c) : ¬ c < 6 ∧ ¬ c < 0 := by
  have e1 : (0 : Int32).toInt = 0 := by decide
  have e2 : (6 : Int32).toInt = 6 := by decide
  rw [i_le] at h
  rw [i_lt, i_lt]
  omega
theorem take_bin {env : Nat → Int32} {s : Int32} {h : Nat} {f : Nat → Int32} (hs : s = 3 ∨ s = 4 ∨ s = 15 ∨ s = 16 ∨ s = 17 ∨ s = 18 ∨ s = 19) (ho : okE (codeK s) h) : 2 ≤ h ∧ hE (codeK s) h = h - 1 ∧ stE env (codeK s) h f = up f (h - 2) (joinF s (f (h - 2)) (f (h - 1))) := by
  rw [joinF_K hs]
  have key : 6 ≤ codeK s ∧ ¬ codeK s = 12 ∧ ¬ codeK s = 18 := by
    rcases hs with rfl | rfl | rfl | rfl | rfl | rfl | rfl <;> decide
  obtain ⟨k6, k12, k18⟩ := key
  obtain ⟨n6, n0⟩ := lt6_not k6
  unfold okE at ho
  unfold hE stE
  have cn : ¬ (codeK s = 12 ∨ codeK s = 18) := by simp [k12, k18]
  rw [if_neg n6, if_neg cn] at ho
  rw [if_neg n6, if_neg cn, if_neg n0, if_neg n6, if_neg k12, if_neg k18]
  exact ⟨ho, rfl, rfl⟩
theorem ct_X6_take {G : GW} (o : Nat) (ho : isTx o) (x1 x2 : Int32) (r3 : Nat) (hr : isHo r3) (x4 : Int32) (μ : Mem) (hp : takeOK x1 x2) : Ev2 G mX6_take 2 0 [(0, .ref o), (1, .int x1), (2, .int x2), (3, .ref r3), (4, .int x4)] [] μ (fun v μ' => v = some (.int (nI (hE (codeK x1) x2.toNatClampNeg))) ∧ μ' = mrow μ (o + 3) (stE (fun k => namedF μ r3 (nI (6 + k)) x4) (codeK x1) x2.toNatClampNeg (μ (o + 3)))) := by
  obtain ⟨hv, h, hh, rfl, hok⟩ := hp
  rw [ix_nI (by omega)]
  have vpush : okE (codeK x1) h → codeK x1 < 6 → vp_in (nI h) 40 := fun q c => by
    unfold okE at q
    rw [if_pos c] at q
    exact vp_nI q (by omega)
  have bin : (x1 = 3 ∨ x1 = 4 ∨ x1 = 15 ∨ x1 = 16 ∨ x1 = 17 ∨ x1 = 18 ∨ x1 = 19) → (((2 ≤ nI h) → (vp_in (nI h - 2) 40) ∧ (vp_in (nI h - 1) 40) ∧ (vp_in (nI h - 2) 40) ∧ (some (Value.int (nI h - 1)) = some (.int (nI (hE (codeK x1) h))) ∧ (mset μ (o + 3) (nI h - 2).toNatClampNeg (joinF x1 (μ (o + 3) (nI h - 2).toNatClampNeg) (μ (o + 3) (nI h - 1).toNatClampNeg))) = mrow μ (o + 3) (stE (fun k => namedF μ r3 (nI (6 + k)) x4) (codeK x1) h (μ (o + 3))))) ∧ ((¬ (2 ≤ nI h)) → (some (Value.int (nI h)) = some (.int (nI (hE (codeK x1) h))) ∧ μ = mrow μ (o + 3) (stE (fun k => namedF μ r3 (nI (6 + k)) x4) (codeK x1) h (μ (o + 3)))))) := by
    intro hs
    obtain ⟨g1, g2, g3⟩ := take_bin (env := fun k => namedF μ r3 (nI (6 + k)) x4) (f := μ (o + 3)) hs hok
    refine ⟨fun _ => ?_, fun c => absurd (nI_le (a := 2) g1 (by omega)) c⟩
    rw [nI_m1 (by omega), nI_m2 g1, g2, g3, ix_nI (by omega), ix_nI (by omega), mset_row]
    exact ⟨vp_nI (by omega) (by omega), vp_nI (by omega) (by omega), vp_nI (by omega) (by omega), rfl, rfl⟩
  refine sg_X6_take_0 ho hr ⟨fun c1 => ⟨fun c2 => ⟨fun c3 => ?_, fun c3 => ⟨fun c4 => ?_, fun c4 => ?_⟩⟩, fun c2 => ?_⟩, fun c1 => ?_⟩
  · subst c3
    have g : 1 ≤ h := hok
    refine ⟨fun c => absurd c (by rw [Int32.not_lt]; exact nI_le (a := 1) g (by omega)), fun _ => ⟨by rw [nI_m1 g]; exact vp_nI (by omega) (by omega), fun y hy => ⟨fun _ => ?_, fun c => absurd c (by decide)⟩⟩⟩
    rw [nI_m1 g, ix_nI (by omega)] at hy ⊢
    have e : stE (fun k => namedF μ r3 (nI (6 + k)) x4) (codeK 5) h (μ (o + 3)) = up (μ (o + 3)) (h - 1) (if μ (o + 3) (h - 1) = 0 then 1 else 0) := rfl
    rw [e, mset_row, mset_row, ← hy]
    refine ⟨fun c => ⟨vp_nI (by omega) (by omega), rfl, by rw [if_neg c]⟩, fun c => ⟨vp_nI (by omega) (by omega), rfl, by rw [if_pos c]⟩⟩
  · refine bin ?_
    rcases hv with ⟨q, -⟩ | ⟨q1, q2⟩ | q | q | q | q | q | q | q | q | q
    · exact absurd c1 (by rw [Int32.not_lt]; exact q)
    · exact absurd (inB_t.mpr ⟨q1, q2⟩) (by rw [c2]; decide)
    all_goals simp_all
  · subst c4
    have g : 1 ≤ h := hok
    refine ⟨fun c => absurd c (by rw [Int32.not_lt]; exact nI_le (a := 1) g (by omega)), fun _ => ⟨by rw [nI_m1 g]; exact vp_nI (by omega) (by omega), fun y hy => ⟨fun c => absurd rfl c, fun _ => ?_⟩⟩⟩
    rw [nI_m1 g, ix_nI (by omega)] at hy ⊢
    have e : stE (fun k => namedF μ r3 (nI (6 + k)) x4) (codeK 23) h (μ (o + 3)) = up (μ (o + 3)) (h - 1) (-(μ (o + 3) (h - 1))) := rfl
    rw [e, mset_row, ← hy]
    exact ⟨vp_nI (by omega) (by omega), rfl, rfl⟩
  · obtain ⟨k, hk, hs, hc⟩ := codeK_name c2
    have c6 : codeK x1 < 6 := by rw [hc]; exact nI_lt (b := 6) hk (by omega)
    have c0 : ¬ codeK x1 < 0 := by rw [hc]; exact nI_pos (by omega)
    refine ⟨vpush hok c6, ?_, ?_⟩
    · unfold hE
      rw [if_pos c6, nI_1]
    · unfold stE
      rw [if_neg c0, if_pos c6, hc, ix_nI (by omega), ix_nI (by omega), mset_row]
      dsimp only
      rw [hs]
  · rw [Int32.not_lt] at c1
    have hr : 100 ≤ x1 ∧ x1 ≤ 10099 := by
      rcases hv with q | ⟨q1, q2⟩ | q | q | q | q | q | q | q | q | q
      · exact q
      · exfalso
        rw [i_le] at c1 q2
        have e1 : (100 : Int32).toInt = 100 := by decide
        have e2 : (11 : Int32).toInt = 11 := by decide
        omega
      all_goals (subst q; exact absurd c1 (by decide))
    have c0 := codeK_neg hr
    have c6 : codeK x1 < 6 := Int32.lt_trans c0 (by decide)
    refine ⟨vpush hok c6, ?_, ?_⟩
    · unfold hE
      rw [if_pos c6, nI_1]
    · unfold stE
      rw [if_pos c0, codeK_num c1, ix_nI (by omega), mset_row]
      have e : -1 - (-1 - (x1 - 100)) = x1 - 100 := by
        obtain ⟨q1, q2⟩ := hr
        have e1 : (100 : Int32).toInt = 100 := by decide
        have e2 : (10099 : Int32).toInt = 10099 := by decide
        have e3 : (-1 : Int32).toInt = -1 := by decide
        rw [i_le] at q1 q2
        have e4 : (x1 - 100).toInt = x1.toInt - 100 := by rw [i_sub (by omega), e1]
        have e5 : (-1 - (x1 - 100)).toInt = -1 - (x1.toInt - 100) := by rw [i_sub (by omega), e3, e4]
        rw [i_eq, i_sub (by omega), e3, e4, e5]
        omega
      rw [e]
def stX (μ : Mem) (o p : Nat) : Nat := if p = 0 then 0 else (μ (o + 2) (p - 1)).toNatClampNeg
def lenX (μ : Mem) (o p : Nat) : Nat := (μ (o + 2) p).toNatClampNeg - stX μ o p
def codeX (μ : Mem) (o p : Nat) : Nat → Int32 := fun k => codeK (μ (o + 1) (stX μ o p + k))
def saysOK (μ : Mem) (o : Nat) (x : Int32) : Prop := ∃ p : Nat, p < 3 ∧ x = nI p ∧ (0 < p → μ (o + 2) (p - 1) = nI (stX μ o p)) ∧ μ (o + 2) p = nI (stX μ o p + lenX μ o p) ∧ stX μ o p + lenX μ o p ≤ 160 ∧ (∀ k, k < lenX μ o p → validS (μ (o + 1) (stX μ o p + k))) ∧ wfE (codeX μ o p) (lenX μ o p)
def onlyRow (μ : Mem) (a : Nat) (μ' : Mem) : Prop := ∀ b, b ≠ a → μ' b = μ b
theorem sg_X6_says_0 {G : GW} {K : Option Value → Mem → Prop} {μ : Mem} {o r2 : Nat} {x1 x3 : Int32} (ho : isTx o) (hr2 : isHo r2) (h : ((¬ x1 = 0) → (vp_in (x1 - 1) 3) ∧ ∀ y6 : Int32, y6 = (μ (o + 2) (x1 - 1).toNatClampNeg) → Ev2 G mX6_says 3 21 [(0, .ref o), (1, .int x1), (2, .ref r2), (3, .int x3), (4, .int 0), (5, .int y6)] [] μ K) ∧ ((x1 = 0) → Ev2 G mX6_says 3 21 [(0, .ref o), (1, .int x1), (2, .ref r2), (3, .int x3), (4, .int 0), (5, .int 0)] [] μ K)) : Ev2 G mX6_says 3 0 [(0, .ref o), (1, .int x1), (2, .ref r2), (3, .int x3)] [] μ K := by
  refine ev_iconst (v := 0) dX6_says_0 rfl ?_
  refine ev_istore (lv' := [(0, .ref o), (1, .int x1), (2, .ref r2), (3, .int x3), (4, .int 0)]) dX6_says_1 (by decide) [1, 2, 3, 4, 0] rfl ?_
  refine ev_iload_n dX6_says_3 1 rfl ?_
  refine ev_if_ne (tgt := 11) dX6_says_4 rfl (fun c1 => ?_) (fun c1 => ?_)
  · have h2 := h.1 c1
    refine ev_aload_n dX6_says_11 0 rfl (nzTx ho) ?_
    refine ev_getR' fl_6_15 rfl (kdTx ho) (rfTx1 ho) dX6_says_12 ?_
    refine ev_iload_n dX6_says_15 1 rfl ?_
    refine ev_iconst (v := 1) dX6_says_16 rfl ?_
    refine ev_isub dX6_says_17 ?_
    have p4 := h2.1
    have h5 := h2.2
    refine ev_iaload' (v := (μ (o + 2) (x1 - 1).toNatClampNeg)) (kdTx1 ho) (lnTx1 ho) p4 rfl dX6_says_18 ?_
    refine ev_top (fun y6 ey6 => ?_)
    have h7 := h5 y6 ey6
    refine ev_istore (lv' := [(0, .ref o), (1, .int x1), (2, .ref r2), (3, .int x3), (4, .int 0), (5, .int y6)]) dX6_says_19 (by decide) [1, 2, 3, 4, 5, 0] rfl ?_
    exact h7
  · have h3 := h.2 c1
    refine ev_iconst (v := 0) dX6_says_7 rfl ?_
    refine ev_goto (tgt := 19) dX6_says_8 rfl ?_
    refine ev_istore (lv' := [(0, .ref o), (1, .int x1), (2, .ref r2), (3, .int x3), (4, .int 0), (5, .int 0)]) dX6_says_19 (by decide) [1, 2, 3, 4, 5, 0] rfl ?_
    exact h3
theorem sg_X6_says_21 {G : GW} {K : Option Value → Mem → Prop} {μ : Mem} {o r2 : Nat} {x1 x3 x4 x5 : Int32} (ho : isTx o) (hr2 : isHo r2) (h : (vp_in x1 3) ∧ (((μ (o + 2) x1.toNatClampNeg) ≤ x5) → K (some (.int (μ (o + 3) 0))) μ) ∧ ((¬ ((μ (o + 2) x1.toNatClampNeg) ≤ x5)) → (vp_in x5 160) ∧ (takeOK (μ (o + 1) x5.toNatClampNeg) x4) ∧ ∀ y10 : Int32, y10 = (nI (hE (codeK (μ (o + 1) x5.toNatClampNeg)) x4.toNatClampNeg)) → Ev2 G mX6_says 3 21 [(0, .ref o), (1, .int x1), (2, .ref r2), (3, .int x3), (4, .int y10), (5, .int (x5 + 1))] [] (mrow μ (o + 3) (stE (fun k => namedF μ r2 (nI (6 + k)) x3) (codeK (μ (o + 1) x5.toNatClampNeg)) x4.toNatClampNeg (μ (o + 3)))) K)) : Ev2 G mX6_says 3 21 [(0, .ref o), (1, .int x1), (2, .ref r2), (3, .int x3), (4, .int x4), (5, .int x5)] [] μ K := by
  refine ev_iload dX6_says_21 5 rfl ?_
  refine ev_aload_n dX6_says_23 0 rfl (nzTx ho) ?_
  refine ev_getR' fl_6_15 rfl (kdTx ho) (rfTx1 ho) dX6_says_24 ?_
  refine ev_iload_n dX6_says_27 1 rfl ?_
  have p1 := h.1
  have h2 := h.2
  refine ev_iaload' (v := (μ (o + 2) x1.toNatClampNeg)) (kdTx1 ho) (lnTx1 ho) p1 rfl dX6_says_28 ?_
  refine ev_icmp_ge (tgt := 55) dX6_says_29 rfl (fun c3 => ?_) (fun c3 => ?_)
  · have h4 := h2.1 c3
    refine ev_aload_n dX6_says_55 0 rfl (nzTx ho) ?_
    refine ev_getR' fl_6_18 rfl (kdTx ho) (rfTx2 ho) dX6_says_56 ?_
    refine ev_iconst (v := 0) dX6_says_59 rfl ?_
    refine ev_iaload' (v := (μ (o + 3) 0)) (kdTx2 ho) (lnTx2 ho) (vp_c ⟨rfl, rfl⟩) rfl dX6_says_60 ?_
    exact ev_ireturn dX6_says_61 rfl True.intro rfl rfl ⟨rfl, h4⟩
  · have h5 := h2.2 c3
    refine ev_aload_n dX6_says_32 0 rfl (nzTx ho) ?_
    refine ev_aload_n dX6_says_33 0 rfl (nzTx ho) ?_
    refine ev_getR' fl_6_9 rfl (kdTx ho) (rfTx0 ho) dX6_says_34 ?_
    refine ev_iload dX6_says_37 5 rfl ?_
    have p6 := h5.1
    have h7 := h5.2
    refine ev_iaload' (v := (μ (o + 1) x5.toNatClampNeg)) (kdTx0 ho) (lnTx0 ho) p6 rfl dX6_says_39 ?_
    refine ev_iload dX6_says_40 4 rfl ?_
    refine ev_aload_n dX6_says_42 2 rfl (nzHo hr2) ?_
    refine ev_iload_n dX6_says_43 3 rfl ?_
    have p8 := h7.1
    have h9 := h7.2
    refine e2_callV (w := .int (nI (hE (codeK (μ (o + 1) x5.toNatClampNeg)) x4.toNatClampNeg))) (μ1 := (mrow μ (o + 3) (stE (fun k => namedF μ r2 (nI (6 + k)) x3) (codeK (μ (o + 1) x5.toNatClampNeg)) x4.toNatClampNeg (μ (o + 3))))) (a := o) (as := [.int (μ (o + 1) x5.toNatClampNeg), .int x4, .ref r2, .int x3]) (st := []) ok_X6_take vi_X6_take ml_6_25 hcl_6 (kdTx ho) dX6_says_44 rfl rfl (Nat.le_of_ble_eq_true rfl) (Nat.le_of_ble_eq_true rfl) (by decide) (ct_X6_take o ho ((μ (o + 1) x5.toNatClampNeg)) (x4) r2 hr2 (x3) μ p8) ?_
    refine ev_top (fun y10 ey10 => ?_)
    have h11 := h9 y10 ey10
    refine ev_istore (lv' := [(0, .ref o), (1, .int x1), (2, .ref r2), (3, .int x3), (4, .int y10), (5, .int x5)]) dX6_says_47 (by decide) [1, 2, 3, 4, 0, 5] rfl ?_
    refine ev_iinc (v := (x5 + 1)) (lv' := [(0, .ref o), (1, .int x1), (2, .ref r2), (3, .int x3), (4, .int y10), (5, .int (x5 + 1))]) dX6_says_49 5 rfl rfl (by decide) [1, 2, 3, 4, 5, 0] rfl ?_
    refine ev_goto (tgt := 21) dX6_says_52 rfl ?_
    exact h11
theorem namedF_row {μ : Mem} {a r : Nat} {g : Nat → Int32} (h : r ≠ a) (x y : Int32) : namedF (mrow μ a g) r x y = namedF μ r x y := by
  unfold namedF
  rw [mrow_ne μ g h]
theorem isTx_lo {o : Nat} (h : isTx o) : 50 ≤ o ∧ o ≤ 70 := by
  obtain ⟨j, hj, rfl⟩ := h
  omega
theorem lp_X6_says {G : GW} {o r2 : Nat} (ho : isTx o) (hr : isHo r2) (x3 : Int32) (μ : Mem) {p : Nat} (hp3 : p < 3) (h2 : μ (o + 2) p = nI (stX μ o p + lenX μ o p)) (h3 : stX μ o p + lenX μ o p ≤ 160) (h4 : ∀ k, k < lenX μ o p → validS (μ (o + 1) (stX μ o p + k))) (hw : wfE (codeX μ o p) (lenX μ o p)) :
    ∀ j k, k + j = lenX μ o p → Ev2 G mX6_says 3 21 [(0, .ref o), (1, .int (nI p)), (2, .ref r2), (3, .int x3), (4, .int (nI (htE (codeX μ o p) k))), (5, .int (nI (stX μ o p + k)))] [] (mrow μ (o + 3) (runE (fun k => namedF μ r2 (nI (6 + k)) x3) (codeX μ o p) (μ (o + 3)) k))
      (fun v μ' => ∃ x, v = some (.int x) ∧ (x = valE (fun k => namedF μ r2 (nI (6 + k)) x3) (codeX μ o p) (lenX μ o p) ∧ onlyRow μ (o + 3) μ')) := by
  have hlo := isTx_lo ho
  have hro := hr.2
  intro j
  induction j with
  | zero =>
    intro k hk
    obtain rfl : k = lenX μ o p := by omega
    refine sg_X6_says_21 ho hr ⟨vp_nI hp3 (by omega), fun _ => ?_, fun c => ?_⟩
    · refine ⟨_, rfl, ?_, fun b hb => mrow_ne _ _ hb⟩
      rw [mrow_same]
      exact valE_of hw
    · exfalso
      rw [mrow_ne _ _ (by omega), ix_nI (by omega), h2] at c
      exact c (nI_le (by omega) (by omega))
  | succ j ih =>
    intro k hk
    have hkl : k < lenX μ o p := by omega
    refine sg_X6_says_21 ho hr ⟨vp_nI hp3 (by omega), fun c => ?_, fun _ => ⟨vp_nI (by omega) (by omega), ?_, ?_⟩⟩
    · exfalso
      rw [mrow_ne _ _ (by omega), ix_nI (by omega), h2] at c
      exact nI_ge (a := stX μ o p + k) (b := stX μ o p + lenX μ o p) (by omega) (by omega) c
    · rw [mrow_ne _ _ (by omega), ix_nI (by omega)]
      exact ⟨h4 k hkl, _, htE_hi hw.1 k (by omega), rfl, hw.1 k hkl⟩
    · intro y hy
      rw [mrow_ne _ _ (by omega : o + 1 ≠ o + 3), ix_nI (by omega), ix_nI (by have := htE_hi hw.1 k (by omega); omega)] at hy ⊢
      have h := ih (k + 1) (by omega)
      rw [hy, nI_1]
      rw [mrow_mrow, mrow_same]
      have en : (fun k' => namedF (mrow μ (o + 3) (runE (fun k => namedF μ r2 (nI (6 + k)) x3) (codeX μ o p) (μ (o + 3)) k)) r2 (nI (6 + k')) x3) = (fun k' => namedF μ r2 (nI (6 + k')) x3) := funext fun k' => namedF_row (by omega) _ _
      rw [en]
      exact h
theorem ct_X6_says {G : GW} (o : Nat) (ho : isTx o) (x1 : Int32) (r2 : Nat) (hr : isHo r2) (x3 : Int32) (μ : Mem) (hp : saysOK μ o x1) : Ev2 G mX6_says 3 0 [(0, .ref o), (1, .int x1), (2, .ref r2), (3, .int x3)] [] μ (fun v μ' => ∃ x, v = some (.int x) ∧ (x = valE (fun k => namedF μ r2 (nI (6 + k)) x3) (codeX μ o x1.toNatClampNeg) (lenX μ o x1.toNatClampNeg) ∧ onlyRow μ (o + 3) μ')) := by
  obtain ⟨p, hp3, rfl, h1, h2, h3, h4, hw⟩ := hp
  rw [ix_nI (by omega)]
  have h := lp_X6_says (G := G) ho hr x3 μ hp3 h2 h3 h4 hw (lenX μ o p) 0 (by omega)
  have e0 : mrow μ (o + 3) (runE (fun k => namedF μ r2 (nI (6 + k)) x3) (codeX μ o p) (μ (o + 3)) 0) = μ := mrow_self μ (o + 3)
  rw [e0] at h
  refine sg_X6_says_0 ho hr ⟨fun c => ⟨?_, fun y hy => ?_⟩, fun c => ?_⟩
  · have p1 : 1 ≤ p := by
      rcases Nat.eq_zero_or_pos p with rfl | q
      · exact absurd rfl c
      · exact q
    rw [nI_m1 p1]
    exact vp_nI (by omega) (by omega)
  · have p1 : 1 ≤ p := by
      rcases Nat.eq_zero_or_pos p with rfl | q
      · exact absurd rfl c
      · exact q
    rw [nI_m1 p1, ix_nI (by omega), h1 p1] at hy
    rw [hy]
    exact h
  · have p0 : p = 0 := by
      have := (nI_eq (a := p) (b := 0) (by omega) (by omega)).mp c
      exact this
    have s0 : stX μ o p = 0 := if_pos p0
    rw [s0] at h
    exact h
