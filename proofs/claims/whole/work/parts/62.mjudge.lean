/-! ===== the reference's public methods: taken, judge, wet, by lot ===== -/
theorem one_kind : ∀ k, k < 7 → ∀ y, y < 6 → isOneF 6 (nI y) (nI k) = decide (nI k = 0 ∨ nI k = nI y ∨ (nI k = 1 ∧ nI y = 3) ∨ (nI k = 2 ∧ nI y = 4)) := by decide
theorem six_kind : ∀ k, k < 7 → (6 ≤ nI k ↔ nI k = 6) := by decide
theorem sg_X8_taken_0 {G : GW} {K : Option Value → Mem → Prop} {μ : Mem} {x1 x2 : Int32}  (h : (((inB x2 (0 : Int32) (6 : Int32)) = true) → (((inB x1 (0 : Int32) (10 : Int32)) = true) → ((4 ≤ x1) → (((inB (x1 - 4) 0 (μ 82 4 - 1)) = true) → (vp_in (x1 - 4) 8) ∧ ∀ y15 : Int32, y15 = (μ 86 (x1 - 4).toNatClampNeg) → ((x2 = 0) → (((1 : Int32) = 0) → K (some (.int (-13))) μ) ∧ ((¬ ((1 : Int32) = 0)) → ((6 ≤ x2) → K (some (.int (-13))) μ) ∧ ((¬ (6 ≤ x2)) → K (some (.int (x1 - 4))) μ))) ∧ ((¬ (x2 = 0)) → ((x2 = y15) → (((1 : Int32) = 0) → K (some (.int (-13))) μ) ∧ ((¬ ((1 : Int32) = 0)) → ((6 ≤ x2) → K (some (.int (-13))) μ) ∧ ((¬ (6 ≤ x2)) → K (some (.int (x1 - 4))) μ))) ∧ ((¬ (x2 = y15)) → ((¬ x2 = 1) → ((¬ x2 = 2) → (((0 : Int32) = 0) → K (some (.int (-13))) μ) ∧ ((¬ ((0 : Int32) = 0)) → ((6 ≤ x2) → K (some (.int (-13))) μ) ∧ ((¬ (6 ≤ x2)) → K (some (.int (x1 - 4))) μ))) ∧ ((x2 = 2) → ((¬ y15 = 4) → (((0 : Int32) = 0) → K (some (.int (-13))) μ) ∧ ((¬ ((0 : Int32) = 0)) → ((6 ≤ x2) → K (some (.int (-13))) μ) ∧ ((¬ (6 ≤ x2)) → K (some (.int (x1 - 4))) μ))) ∧ ((y15 = 4) → (((1 : Int32) = 0) → K (some (.int (-13))) μ) ∧ ((¬ ((1 : Int32) = 0)) → ((6 ≤ x2) → K (some (.int (-13))) μ) ∧ ((¬ (6 ≤ x2)) → K (some (.int (x1 - 4))) μ))))) ∧ ((x2 = 1) → ((y15 = 3) → (((1 : Int32) = 0) → K (some (.int (-13))) μ) ∧ ((¬ ((1 : Int32) = 0)) → ((6 ≤ x2) → K (some (.int (-13))) μ) ∧ ((¬ (6 ≤ x2)) → K (some (.int (x1 - 4))) μ))) ∧ ((¬ (y15 = 3)) → ((¬ x2 = 2) → (((0 : Int32) = 0) → K (some (.int (-13))) μ) ∧ ((¬ ((0 : Int32) = 0)) → ((6 ≤ x2) → K (some (.int (-13))) μ) ∧ ((¬ (6 ≤ x2)) → K (some (.int (x1 - 4))) μ))) ∧ ((x2 = 2) → ((¬ y15 = 4) → (((0 : Int32) = 0) → K (some (.int (-13))) μ) ∧ ((¬ ((0 : Int32) = 0)) → ((6 ≤ x2) → K (some (.int (-13))) μ) ∧ ((¬ (6 ≤ x2)) → K (some (.int (x1 - 4))) μ))) ∧ ((y15 = 4) → (((1 : Int32) = 0) → K (some (.int (-13))) μ) ∧ ((¬ ((1 : Int32) = 0)) → ((6 ≤ x2) → K (some (.int (-13))) μ) ∧ ((¬ (6 ≤ x2)) → K (some (.int (x1 - 4))) μ))))))))) ∧ (((inB (x1 - 4) 0 (μ 82 4 - 1)) = false) → K (some (.int (-11))) μ)) ∧ ((¬ (4 ≤ x1)) → (((inB x1 0 (μ 82 1 - 1)) = true) → ((¬ x2 = 6) → K (some (.int (-13))) μ) ∧ ((x2 = 6) → (vp_in x1 4) ∧ (vp_in x1 4) ∧ K (some (.int ((10 * (μ 84 x1.toNatClampNeg)) + (μ 85 x1.toNatClampNeg)))) μ)) ∧ (((inB x1 0 (μ 82 1 - 1)) = false) → K (some (.int (-11))) μ))) ∧ (((inB x1 (0 : Int32) (10 : Int32)) = false) → K (some (.int (-12))) μ)) ∧ (((inB x2 (0 : Int32) (6 : Int32)) = false) → K (some (.int (-2))) μ)) : Ev2 G mX8_taken 3 0 [(0, .ref 82), (1, .int x1), (2, .int x2)] [] μ K := by
  refine ev_iload_n dX8_taken_0 2 rfl ?_
  refine ev_iconst (v := 0) dX8_taken_1 rfl ?_
  refine ev_bipush (v := 6) dX8_taken_2 rfl ?_
  refine e2_callS (w := .int (bi (inB x2 (0 : Int32) (6 : Int32)))) (μ1 := μ) (as := [.int x2, .int 0, .int 6]) (st := []) ok_X8_isIn sv_X8_isIn ml_8_3 dX8_taken_4 rfl rfl (Nat.le_of_ble_eq_true rfl) (Nat.le_of_ble_eq_true rfl) (by decide) (ct_X8_isIn (x2) (0) (6) μ) ?_
  refine ev_ifne_bi (tgt := 13) dX8_taken_7 rfl (fun c1 => ?_) (fun c1 => ?_)
  · have h2 := h.1 c1
    refine ev_iload_n dX8_taken_13 1 rfl ?_
    refine ev_iconst (v := 0) dX8_taken_14 rfl ?_
    refine ev_bipush (v := 10) dX8_taken_15 rfl ?_
    refine e2_callS (w := .int (bi (inB x1 (0 : Int32) (10 : Int32)))) (μ1 := μ) (as := [.int x1, .int 0, .int 10]) (st := []) ok_X8_isIn sv_X8_isIn ml_8_3 dX8_taken_17 rfl rfl (Nat.le_of_ble_eq_true rfl) (Nat.le_of_ble_eq_true rfl) (by decide) (ct_X8_isIn (x1) (0) (10) μ) ?_
    refine ev_ifne_bi (tgt := 26) dX8_taken_20 rfl (fun c4 => ?_) (fun c4 => ?_)
    · have h5 := h2.1 c4
      refine ev_iload_n dX8_taken_26 1 rfl ?_
      refine ev_iconst (v := 4) dX8_taken_27 rfl ?_
      refine ev_icmp_ge (tgt := 70) dX8_taken_28 rfl (fun c7 => ?_) (fun c7 => ?_)
      · have h8 := h5.1 c7
        refine ev_iload_n dX8_taken_70 1 rfl ?_
        refine ev_iconst (v := 4) dX8_taken_71 rfl ?_
        refine ev_isub dX8_taken_72 ?_
        refine ev_istore_n (lv' := [(0, .ref 82), (1, .int x1), (2, .int x2), (3, .int (x1 - 4))]) dX8_taken_73 (by decide) [1, 2, 3, 0] rfl ?_
        refine ev_aload_n dX8_taken_74 0 rfl (by decide) ?_
        refine ev_iload_n dX8_taken_75 3 rfl ?_
        refine e2_callV (w := .int (bi (inB (x1 - 4) 0 (μ 82 4 - 1)))) (μ1 := μ) (a := 82) (as := [.int (x1 - 4)]) (st := []) ok_X8_isHorse vi_X8_isHorse ml_8_57 hcl_8 kd_82 dX8_taken_76 rfl rfl (Nat.le_of_ble_eq_true rfl) (Nat.le_of_ble_eq_true rfl) (by decide) (ct_X8_isHorse ((x1 - 4)) μ) ?_
        refine ev_ifne_bi (tgt := 85) dX8_taken_79 rfl (fun c10 => ?_) (fun c10 => ?_)
        · have h11 := h8.1 c10
          refine ev_aload_n dX8_taken_85 0 rfl (by decide) ?_
          refine ev_getR' fl_8_35 rfl kd_82 rf_82_5 dX8_taken_86 ?_
          refine ev_iload_n dX8_taken_89 3 rfl ?_
          have p13 := h11.1
          have h14 := h11.2
          refine ev_iaload' (v := (μ 86 (x1 - 4).toNatClampNeg)) kd_86 ln_86 p13 rfl dX8_taken_90 ?_
          refine ev_top (fun y15 ey15 => ?_)
          have h16 := h14 y15 ey15
          refine ev_istore (lv' := [(0, .ref 82), (1, .int x1), (2, .int x2), (3, .int (x1 - 4)), (4, .int y15)]) dX8_taken_91 (by decide) [1, 2, 3, 4, 0] rfl ?_
          refine ev_iload_n dX8_taken_93 2 rfl ?_
          refine ev_if_eq (tgt := 125) dX8_taken_94 rfl (fun c17 => ?_) (fun c17 => ?_)
          · have h18 := h16.1 c17
            refine ev_iconst (v := 1) dX8_taken_125 rfl ?_
            refine ev_goto (tgt := 130) dX8_taken_126 rfl ?_
            refine ev_istore (lv' := [(0, .ref 82), (1, .int x1), (2, .int x2), (3, .int (x1 - 4)), (4, .int y15), (5, .int 1)]) dX8_taken_130 (by decide) [1, 2, 3, 4, 5, 0] rfl ?_
            refine ev_iload dX8_taken_132 5 rfl ?_
            refine ev_if_eq (tgt := 147) dX8_taken_134 rfl (fun c20 => ?_) (fun c20 => ?_)
            · have h21 := h18.1 c20
              refine ev_bipush (v := (-13)) dX8_taken_147 rfl ?_
              exact ev_ireturn dX8_taken_149 rfl True.intro rfl rfl ⟨rfl, h21⟩
            · have h22 := h18.2 c20
              refine ev_iload_n dX8_taken_137 2 rfl ?_
              refine ev_bipush (v := 6) dX8_taken_138 rfl ?_
              refine ev_icmp_ge (tgt := 147) dX8_taken_140 rfl (fun c23 => ?_) (fun c23 => ?_)
              · have h24 := h22.1 c23
                refine ev_bipush (v := (-13)) dX8_taken_147 rfl ?_
                exact ev_ireturn dX8_taken_149 rfl True.intro rfl rfl ⟨rfl, h24⟩
              · have h25 := h22.2 c23
                refine ev_iload_n dX8_taken_143 3 rfl ?_
                refine ev_goto (tgt := 149) dX8_taken_144 rfl ?_
                exact ev_ireturn dX8_taken_149 rfl True.intro rfl rfl ⟨rfl, h25⟩
          · have h19 := h16.2 c17
            refine ev_iload_n dX8_taken_97 2 rfl ?_
            refine ev_iload dX8_taken_98 4 rfl ?_
            refine ev_icmp_eq (tgt := 125) dX8_taken_100 rfl (fun c26 => ?_) (fun c26 => ?_)
            · have h27 := h19.1 c26
              refine ev_iconst (v := 1) dX8_taken_125 rfl ?_
              refine ev_goto (tgt := 130) dX8_taken_126 rfl ?_
              refine ev_istore (lv' := [(0, .ref 82), (1, .int x1), (2, .int x2), (3, .int (x1 - 4)), (4, .int y15), (5, .int 1)]) dX8_taken_130 (by decide) [1, 2, 3, 4, 5, 0] rfl ?_
              refine ev_iload dX8_taken_132 5 rfl ?_
              refine ev_if_eq (tgt := 147) dX8_taken_134 rfl (fun c29 => ?_) (fun c29 => ?_)
              · have h30 := h27.1 c29
                refine ev_bipush (v := (-13)) dX8_taken_147 rfl ?_
                exact ev_ireturn dX8_taken_149 rfl True.intro rfl rfl ⟨rfl, h30⟩
              · have h31 := h27.2 c29
                refine ev_iload_n dX8_taken_137 2 rfl ?_
                refine ev_bipush (v := 6) dX8_taken_138 rfl ?_
                refine ev_icmp_ge (tgt := 147) dX8_taken_140 rfl (fun c32 => ?_) (fun c32 => ?_)
                · have h33 := h31.1 c32
                  refine ev_bipush (v := (-13)) dX8_taken_147 rfl ?_
                  exact ev_ireturn dX8_taken_149 rfl True.intro rfl rfl ⟨rfl, h33⟩
                · have h34 := h31.2 c32
                  refine ev_iload_n dX8_taken_143 3 rfl ?_
                  refine ev_goto (tgt := 149) dX8_taken_144 rfl ?_
                  exact ev_ireturn dX8_taken_149 rfl True.intro rfl rfl ⟨rfl, h34⟩
            · have h28 := h19.2 c26
              refine ev_iload_n dX8_taken_103 2 rfl ?_
              refine ev_iconst (v := 1) dX8_taken_104 rfl ?_
              refine ev_icmp_ne (tgt := 114) dX8_taken_105 rfl (fun c35 => ?_) (fun c35 => ?_)
              · have h36 := h28.1 c35
                refine ev_iload_n dX8_taken_114 2 rfl ?_
                refine ev_iconst (v := 2) dX8_taken_115 rfl ?_
                refine ev_icmp_ne (tgt := 129) dX8_taken_116 rfl (fun c38 => ?_) (fun c38 => ?_)
                · have h39 := h36.1 c38
                  refine ev_iconst (v := 0) dX8_taken_129 rfl ?_
                  refine ev_istore (lv' := [(0, .ref 82), (1, .int x1), (2, .int x2), (3, .int (x1 - 4)), (4, .int y15), (5, .int 0)]) dX8_taken_130 (by decide) [1, 2, 3, 4, 5, 0] rfl ?_
                  refine ev_iload dX8_taken_132 5 rfl ?_
                  refine ev_if_eq (tgt := 147) dX8_taken_134 rfl (fun c41 => ?_) (fun c41 => ?_)
                  · have h42 := h39.1 c41
                    refine ev_bipush (v := (-13)) dX8_taken_147 rfl ?_
                    exact ev_ireturn dX8_taken_149 rfl True.intro rfl rfl ⟨rfl, h42⟩
                  · have h43 := h39.2 c41
                    refine ev_iload_n dX8_taken_137 2 rfl ?_
                    refine ev_bipush (v := 6) dX8_taken_138 rfl ?_
                    refine ev_icmp_ge (tgt := 147) dX8_taken_140 rfl (fun c44 => ?_) (fun c44 => ?_)
                    · have h45 := h43.1 c44
                      refine ev_bipush (v := (-13)) dX8_taken_147 rfl ?_
                      exact ev_ireturn dX8_taken_149 rfl True.intro rfl rfl ⟨rfl, h45⟩
                    · have h46 := h43.2 c44
                      refine ev_iload_n dX8_taken_143 3 rfl ?_
                      refine ev_goto (tgt := 149) dX8_taken_144 rfl ?_
                      exact ev_ireturn dX8_taken_149 rfl True.intro rfl rfl ⟨rfl, h46⟩
                · have h40 := h36.2 c38
                  refine ev_iload dX8_taken_119 4 rfl ?_
                  refine ev_iconst (v := 4) dX8_taken_121 rfl ?_
                  refine ev_icmp_ne (tgt := 129) dX8_taken_122 rfl (fun c47 => ?_) (fun c47 => ?_)
                  · have h48 := h40.1 c47
                    refine ev_iconst (v := 0) dX8_taken_129 rfl ?_
                    refine ev_istore (lv' := [(0, .ref 82), (1, .int x1), (2, .int x2), (3, .int (x1 - 4)), (4, .int y15), (5, .int 0)]) dX8_taken_130 (by decide) [1, 2, 3, 4, 5, 0] rfl ?_
                    refine ev_iload dX8_taken_132 5 rfl ?_
                    refine ev_if_eq (tgt := 147) dX8_taken_134 rfl (fun c50 => ?_) (fun c50 => ?_)
                    · have h51 := h48.1 c50
                      refine ev_bipush (v := (-13)) dX8_taken_147 rfl ?_
                      exact ev_ireturn dX8_taken_149 rfl True.intro rfl rfl ⟨rfl, h51⟩
                    · have h52 := h48.2 c50
                      refine ev_iload_n dX8_taken_137 2 rfl ?_
                      refine ev_bipush (v := 6) dX8_taken_138 rfl ?_
                      refine ev_icmp_ge (tgt := 147) dX8_taken_140 rfl (fun c53 => ?_) (fun c53 => ?_)
                      · have h54 := h52.1 c53
                        refine ev_bipush (v := (-13)) dX8_taken_147 rfl ?_
                        exact ev_ireturn dX8_taken_149 rfl True.intro rfl rfl ⟨rfl, h54⟩
                      · have h55 := h52.2 c53
                        refine ev_iload_n dX8_taken_143 3 rfl ?_
                        refine ev_goto (tgt := 149) dX8_taken_144 rfl ?_
                        exact ev_ireturn dX8_taken_149 rfl True.intro rfl rfl ⟨rfl, h55⟩
                  · have h49 := h40.2 c47
                    refine ev_iconst (v := 1) dX8_taken_125 rfl ?_
                    refine ev_goto (tgt := 130) dX8_taken_126 rfl ?_
                    refine ev_istore (lv' := [(0, .ref 82), (1, .int x1), (2, .int x2), (3, .int (x1 - 4)), (4, .int y15), (5, .int 1)]) dX8_taken_130 (by decide) [1, 2, 3, 4, 5, 0] rfl ?_
                    refine ev_iload dX8_taken_132 5 rfl ?_
                    refine ev_if_eq (tgt := 147) dX8_taken_134 rfl (fun c56 => ?_) (fun c56 => ?_)
                    · have h57 := h49.1 c56
                      refine ev_bipush (v := (-13)) dX8_taken_147 rfl ?_
                      exact ev_ireturn dX8_taken_149 rfl True.intro rfl rfl ⟨rfl, h57⟩
                    · have h58 := h49.2 c56
                      refine ev_iload_n dX8_taken_137 2 rfl ?_
                      refine ev_bipush (v := 6) dX8_taken_138 rfl ?_
                      refine ev_icmp_ge (tgt := 147) dX8_taken_140 rfl (fun c59 => ?_) (fun c59 => ?_)
                      · have h60 := h58.1 c59
                        refine ev_bipush (v := (-13)) dX8_taken_147 rfl ?_
                        exact ev_ireturn dX8_taken_149 rfl True.intro rfl rfl ⟨rfl, h60⟩
                      · have h61 := h58.2 c59
                        refine ev_iload_n dX8_taken_143 3 rfl ?_
                        refine ev_goto (tgt := 149) dX8_taken_144 rfl ?_
                        exact ev_ireturn dX8_taken_149 rfl True.intro rfl rfl ⟨rfl, h61⟩
              · have h37 := h28.2 c35
                refine ev_iload dX8_taken_108 4 rfl ?_
                refine ev_iconst (v := 3) dX8_taken_110 rfl ?_
                refine ev_icmp_eq (tgt := 125) dX8_taken_111 rfl (fun c62 => ?_) (fun c62 => ?_)
                · have h63 := h37.1 c62
                  refine ev_iconst (v := 1) dX8_taken_125 rfl ?_
                  refine ev_goto (tgt := 130) dX8_taken_126 rfl ?_
                  refine ev_istore (lv' := [(0, .ref 82), (1, .int x1), (2, .int x2), (3, .int (x1 - 4)), (4, .int y15), (5, .int 1)]) dX8_taken_130 (by decide) [1, 2, 3, 4, 5, 0] rfl ?_
                  refine ev_iload dX8_taken_132 5 rfl ?_
                  refine ev_if_eq (tgt := 147) dX8_taken_134 rfl (fun c65 => ?_) (fun c65 => ?_)
                  · have h66 := h63.1 c65
                    refine ev_bipush (v := (-13)) dX8_taken_147 rfl ?_
                    exact ev_ireturn dX8_taken_149 rfl True.intro rfl rfl ⟨rfl, h66⟩
                  · have h67 := h63.2 c65
                    refine ev_iload_n dX8_taken_137 2 rfl ?_
                    refine ev_bipush (v := 6) dX8_taken_138 rfl ?_
                    refine ev_icmp_ge (tgt := 147) dX8_taken_140 rfl (fun c68 => ?_) (fun c68 => ?_)
                    · have h69 := h67.1 c68
                      refine ev_bipush (v := (-13)) dX8_taken_147 rfl ?_
                      exact ev_ireturn dX8_taken_149 rfl True.intro rfl rfl ⟨rfl, h69⟩
                    · have h70 := h67.2 c68
                      refine ev_iload_n dX8_taken_143 3 rfl ?_
                      refine ev_goto (tgt := 149) dX8_taken_144 rfl ?_
                      exact ev_ireturn dX8_taken_149 rfl True.intro rfl rfl ⟨rfl, h70⟩
                · have h64 := h37.2 c62
                  refine ev_iload_n dX8_taken_114 2 rfl ?_
                  refine ev_iconst (v := 2) dX8_taken_115 rfl ?_
                  refine ev_icmp_ne (tgt := 129) dX8_taken_116 rfl (fun c71 => ?_) (fun c71 => ?_)
                  · have h72 := h64.1 c71
                    refine ev_iconst (v := 0) dX8_taken_129 rfl ?_
                    refine ev_istore (lv' := [(0, .ref 82), (1, .int x1), (2, .int x2), (3, .int (x1 - 4)), (4, .int y15), (5, .int 0)]) dX8_taken_130 (by decide) [1, 2, 3, 4, 5, 0] rfl ?_
                    refine ev_iload dX8_taken_132 5 rfl ?_
                    refine ev_if_eq (tgt := 147) dX8_taken_134 rfl (fun c74 => ?_) (fun c74 => ?_)
                    · have h75 := h72.1 c74
                      refine ev_bipush (v := (-13)) dX8_taken_147 rfl ?_
                      exact ev_ireturn dX8_taken_149 rfl True.intro rfl rfl ⟨rfl, h75⟩
                    · have h76 := h72.2 c74
                      refine ev_iload_n dX8_taken_137 2 rfl ?_
                      refine ev_bipush (v := 6) dX8_taken_138 rfl ?_
                      refine ev_icmp_ge (tgt := 147) dX8_taken_140 rfl (fun c77 => ?_) (fun c77 => ?_)
                      · have h78 := h76.1 c77
                        refine ev_bipush (v := (-13)) dX8_taken_147 rfl ?_
                        exact ev_ireturn dX8_taken_149 rfl True.intro rfl rfl ⟨rfl, h78⟩
                      · have h79 := h76.2 c77
                        refine ev_iload_n dX8_taken_143 3 rfl ?_
                        refine ev_goto (tgt := 149) dX8_taken_144 rfl ?_
                        exact ev_ireturn dX8_taken_149 rfl True.intro rfl rfl ⟨rfl, h79⟩
                  · have h73 := h64.2 c71
                    refine ev_iload dX8_taken_119 4 rfl ?_
                    refine ev_iconst (v := 4) dX8_taken_121 rfl ?_
                    refine ev_icmp_ne (tgt := 129) dX8_taken_122 rfl (fun c80 => ?_) (fun c80 => ?_)
                    · have h81 := h73.1 c80
                      refine ev_iconst (v := 0) dX8_taken_129 rfl ?_
                      refine ev_istore (lv' := [(0, .ref 82), (1, .int x1), (2, .int x2), (3, .int (x1 - 4)), (4, .int y15), (5, .int 0)]) dX8_taken_130 (by decide) [1, 2, 3, 4, 5, 0] rfl ?_
                      refine ev_iload dX8_taken_132 5 rfl ?_
                      refine ev_if_eq (tgt := 147) dX8_taken_134 rfl (fun c83 => ?_) (fun c83 => ?_)
                      · have h84 := h81.1 c83
                        refine ev_bipush (v := (-13)) dX8_taken_147 rfl ?_
                        exact ev_ireturn dX8_taken_149 rfl True.intro rfl rfl ⟨rfl, h84⟩
                      · have h85 := h81.2 c83
                        refine ev_iload_n dX8_taken_137 2 rfl ?_
                        refine ev_bipush (v := 6) dX8_taken_138 rfl ?_
                        refine ev_icmp_ge (tgt := 147) dX8_taken_140 rfl (fun c86 => ?_) (fun c86 => ?_)
                        · have h87 := h85.1 c86
                          refine ev_bipush (v := (-13)) dX8_taken_147 rfl ?_
                          exact ev_ireturn dX8_taken_149 rfl True.intro rfl rfl ⟨rfl, h87⟩
                        · have h88 := h85.2 c86
                          refine ev_iload_n dX8_taken_143 3 rfl ?_
                          refine ev_goto (tgt := 149) dX8_taken_144 rfl ?_
                          exact ev_ireturn dX8_taken_149 rfl True.intro rfl rfl ⟨rfl, h88⟩
                    · have h82 := h73.2 c80
                      refine ev_iconst (v := 1) dX8_taken_125 rfl ?_
                      refine ev_goto (tgt := 130) dX8_taken_126 rfl ?_
                      refine ev_istore (lv' := [(0, .ref 82), (1, .int x1), (2, .int x2), (3, .int (x1 - 4)), (4, .int y15), (5, .int 1)]) dX8_taken_130 (by decide) [1, 2, 3, 4, 5, 0] rfl ?_
                      refine ev_iload dX8_taken_132 5 rfl ?_
                      refine ev_if_eq (tgt := 147) dX8_taken_134 rfl (fun c89 => ?_) (fun c89 => ?_)
                      · have h90 := h82.1 c89
                        refine ev_bipush (v := (-13)) dX8_taken_147 rfl ?_
                        exact ev_ireturn dX8_taken_149 rfl True.intro rfl rfl ⟨rfl, h90⟩
                      · have h91 := h82.2 c89
                        refine ev_iload_n dX8_taken_137 2 rfl ?_
                        refine ev_bipush (v := 6) dX8_taken_138 rfl ?_
                        refine ev_icmp_ge (tgt := 147) dX8_taken_140 rfl (fun c92 => ?_) (fun c92 => ?_)
                        · have h93 := h91.1 c92
                          refine ev_bipush (v := (-13)) dX8_taken_147 rfl ?_
                          exact ev_ireturn dX8_taken_149 rfl True.intro rfl rfl ⟨rfl, h93⟩
                        · have h94 := h91.2 c92
                          refine ev_iload_n dX8_taken_143 3 rfl ?_
                          refine ev_goto (tgt := 149) dX8_taken_144 rfl ?_
                          exact ev_ireturn dX8_taken_149 rfl True.intro rfl rfl ⟨rfl, h94⟩
        · have h12 := h8.2 c10
          refine ev_bipush (v := (-11)) dX8_taken_82 rfl ?_
          exact ev_ireturn dX8_taken_84 rfl True.intro rfl rfl ⟨rfl, h12⟩
      · have h9 := h5.2 c7
        refine ev_aload_n dX8_taken_31 0 rfl (by decide) ?_
        refine ev_iload_n dX8_taken_32 1 rfl ?_
        refine e2_callV (w := .int (bi (inB x1 0 (μ 82 1 - 1)))) (μ1 := μ) (a := 82) (as := [.int x1]) (st := []) ok_X8_isRide vi_X8_isRide ml_8_32 hcl_8 kd_82 dX8_taken_33 rfl rfl (Nat.le_of_ble_eq_true rfl) (Nat.le_of_ble_eq_true rfl) (by decide) (ct_X8_isRide (x1) μ) ?_
        refine ev_ifne_bi (tgt := 42) dX8_taken_36 rfl (fun c95 => ?_) (fun c95 => ?_)
        · have h96 := h9.1 c95
          refine ev_iload_n dX8_taken_42 2 rfl ?_
          refine ev_bipush (v := 6) dX8_taken_43 rfl ?_
          refine ev_icmp_ne (tgt := 67) dX8_taken_45 rfl (fun c98 => ?_) (fun c98 => ?_)
          · have h99 := h96.1 c98
            refine ev_bipush (v := (-13)) dX8_taken_67 rfl ?_
            exact ev_ireturn dX8_taken_69 rfl True.intro rfl rfl ⟨rfl, h99⟩
          · have h100 := h96.2 c98
            refine ev_bipush (v := 10) dX8_taken_48 rfl ?_
            refine ev_aload_n dX8_taken_50 0 rfl (by decide) ?_
            refine ev_getR' fl_8_26 rfl kd_82 rf_82_2 dX8_taken_51 ?_
            refine ev_iload_n dX8_taken_54 1 rfl ?_
            have p101 := h100.1
            have h102 := h100.2
            refine ev_iaload' (v := (μ 84 x1.toNatClampNeg)) kd_84 ln_84 p101 rfl dX8_taken_55 ?_
            refine ev_imul dX8_taken_56 ?_
            refine ev_aload_n dX8_taken_57 0 rfl (by decide) ?_
            refine ev_getR' fl_8_29 rfl kd_82 rf_82_3 dX8_taken_58 ?_
            refine ev_iload_n dX8_taken_61 1 rfl ?_
            have p103 := h102.1
            have h104 := h102.2
            refine ev_iaload' (v := (μ 85 x1.toNatClampNeg)) kd_85 ln_85 p103 rfl dX8_taken_62 ?_
            refine ev_iadd dX8_taken_63 ?_
            refine ev_goto (tgt := 69) dX8_taken_64 rfl ?_
            exact ev_ireturn dX8_taken_69 rfl True.intro rfl rfl ⟨rfl, h104⟩
        · have h97 := h9.2 c95
          refine ev_bipush (v := (-11)) dX8_taken_39 rfl ?_
          exact ev_ireturn dX8_taken_41 rfl True.intro rfl rfl ⟨rfl, h97⟩
    · have h6 := h2.2 c4
      refine ev_bipush (v := (-12)) dX8_taken_23 rfl ?_
      exact ev_ireturn dX8_taken_25 rfl True.intro rfl rfl ⟨rfl, h6⟩
  · have h3 := h.2 c1
    refine ev_bipush (v := (-2)) dX8_taken_10 rfl ?_
    exact ev_ireturn dX8_taken_12 rfl True.intro rfl rfl ⟨rfl, h3⟩
theorem pb_X8_taken {G : GW} {α μ : Mem} (hf : WF α) (h : VM α μ) (x1 x2 : Int32) : pubM G mX8_taken 3 [(0, .ref 82), (1, .int x1), (2, .int x2)] α μ (.int (sp_taken α x1 x2)) α := by
  have hk := keepX.rf μ
  refine sg_X8_taken_0 ?_
  rw [h.1.1, h.1.2.1]
  unfold sp_taken
  refine ⟨fun c => ⟨fun d => ⟨fun e => ⟨fun f => ?_, fun f => ?_⟩, fun e => ⟨fun f => ?_, fun f => ?_⟩⟩, fun d => ?_⟩, fun c => ?_⟩
  · rw [if_pos c, if_pos d, if_pos e, if_pos f]
    obtain ⟨k, hk6, rfl⟩ := inB_nI (m := 6) (by omega) c
    have six := six_kind k (by omega)
    obtain ⟨i, hi, hi7, ei⟩ := vH' hf f
    rw [ei, ix_nI (by omega)]
    refine ⟨vp_nI (by omega) (by omega), fun y hy => ?_⟩
    rw [(h.h1 hi).1] at hy
    obtain ⟨⟨u, hu, eu⟩, -⟩ := hf.2.2.2.1 i hi
    have one := one_kind k (by omega) u hu
    rw [eu] at hy
    rw [eu, one, ← hy]
    have tail : ∀ b : Int32, (b = 1 ∧ (nI k = 0 ∨ nI k = y ∨ (nI k = 1 ∧ y = 3) ∨ (nI k = 2 ∧ y = 4)) ∨ b = 0 ∧ ¬ (nI k = 0 ∨ nI k = y ∨ (nI k = 1 ∧ y = 3) ∨ (nI k = 2 ∧ y = 4))) → ((b = 0 → (some (Value.int (-13)) = some (Value.int (if nI k = 6 then -13 else if decide (nI k = 0 ∨ nI k = y ∨ (nI k = 1 ∧ y = 3) ∨ (nI k = 2 ∧ y = 4)) = true then nI i else -13)) ∧ VM α μ ∧ keepX μ μ)) ∧ (¬ b = 0 → (6 ≤ nI k → (some (Value.int (-13)) = some (Value.int (if nI k = 6 then -13 else if decide (nI k = 0 ∨ nI k = y ∨ (nI k = 1 ∧ y = 3) ∨ (nI k = 2 ∧ y = 4)) = true then nI i else -13)) ∧ VM α μ ∧ keepX μ μ)) ∧ (¬ 6 ≤ nI k → (some (Value.int (nI i)) = some (Value.int (if nI k = 6 then -13 else if decide (nI k = 0 ∨ nI k = y ∨ (nI k = 1 ∧ y = 3) ∨ (nI k = 2 ∧ y = 4)) = true then nI i else -13)) ∧ VM α μ ∧ keepX μ μ)))) := by
      intro b hb
      refine ⟨fun q => ⟨?_, h, hk⟩, fun q => ⟨fun s => ⟨?_, h, hk⟩, fun s => ⟨?_, h, hk⟩⟩⟩
      · rcases hb with ⟨e1, -⟩ | ⟨-, n⟩
        · rw [e1] at q
          exact absurd q (by decide)
        · rw [decide_eq_false n]
          split <;> rfl
      · rw [if_pos (six.mp s)]
      · rcases hb with ⟨-, p⟩ | ⟨e1, -⟩
        · rw [if_neg (fun z => s (six.mpr z)), decide_eq_true p, if_pos rfl]
        · exact absurd e1 q
    have t4 : nI k = 2 → ¬ nI k = 0 → ¬ nI k = y → ((¬ y = 4 → _) ∧ (y = 4 → _)) := fun e2 n0 ny => ⟨fun n4 => tail 0 (Or.inr ⟨rfl, fun q => q.elim n0 (fun q => q.elim ny (fun q => q.elim (fun q => absurd (e2.symm.trans q.1) (by decide)) (fun q => n4 q.2)))⟩), fun e4 => tail 1 (Or.inl ⟨rfl, Or.inr (Or.inr (Or.inr ⟨e2, e4⟩))⟩)⟩
    refine ⟨fun c0 => tail 1 (Or.inl ⟨rfl, Or.inl c0⟩), fun c0 => ⟨fun cy => tail 1 (Or.inl ⟨rfl, Or.inr (Or.inl cy)⟩), fun cy => ⟨fun n1 => ⟨fun n2 => tail 0 (Or.inr ⟨rfl, fun q => q.elim c0 (fun q => q.elim cy (fun q => q.elim (fun q => n1 q.1) (fun q => n2 q.1)))⟩), fun e2 => t4 e2 c0 cy⟩, fun e1 => ⟨fun e3 => tail 1 (Or.inl ⟨rfl, Or.inr (Or.inr (Or.inl ⟨e1, e3⟩))⟩), fun n3 => ⟨fun n2 => tail 0 (Or.inr ⟨rfl, fun q => q.elim c0 (fun q => q.elim cy (fun q => q.elim (fun q => n3 q.2) (fun q => n2 q.1)))⟩), fun e2 => t4 e2 c0 cy⟩⟩⟩⟩⟩
  · rw [if_pos c, if_pos d, if_pos e, if_neg (by rw [f]; decide)]
    exact ⟨rfl, h, hk⟩
  · rw [if_pos c, if_pos d, if_neg e, if_pos f]
    obtain ⟨r, hr, hr4, rfl⟩ := vR' hf f
    obtain ⟨r1, r2⟩ := h.2.2.1 r hr
    rw [ix_nI (by omega), r1, r2]
    have v4 : vp_in (nI r) 4 := vp_nI hr4 (by omega)
    refine ⟨fun g => ?_, fun g => ⟨v4, v4, ?_⟩⟩
    · rw [if_neg g]
      exact ⟨rfl, h, hk⟩
    · rw [if_pos g]
      exact ⟨rfl, h, hk⟩
  · rw [if_pos c, if_pos d, if_neg e, if_neg (by rw [f]; decide)]
    exact ⟨rfl, h, hk⟩
  · rw [if_pos c, if_neg (by rw [d]; decide)]
    exact ⟨rfl, h, hk⟩
  · rw [if_neg (by rw [c]; decide)]
    exact ⟨rfl, h, hk⟩
/-! judge -/
theorem bitB_0 {set h : Int32} : bitB set h = false ↔ (set >>> (h &&& 31)) &&& 1 = 0 := by
  unfold bitB
  rcases and1 (set >>> (h &&& 31)) with e | e <;> rw [e] <;> decide
theorem sg_X8_judge_0 {G : GW} {K : Option Value → Mem → Prop} {μ : Mem} {α : Mem} (hf : WF α) {x1 x2 x3 : Int32}  (h : (((inB x1 0 3) = true) → (vp_in x1 4) ∧ ((0 ≤ (μ 109 x1.toNatClampNeg)) → (((inB x2 0 6) = true) → (((inB x3 (0 : Int32) (2 : Int32)) = true) → Ev2 G mX8_judge 4 59 [(0, .ref 82), (1, .int x1), (3, .int x3), (4, .int 0), (5, .int x2), (6, .int 0), (7, .int (-1)), (8, .int 0)] [] μ K) ∧ (((inB x3 (0 : Int32) (2 : Int32)) = false) → K (some (.int (-7))) μ)) ∧ (((inB x2 0 6) = false) → K (some (.int (-5))) μ)) ∧ ((¬ (0 ≤ (μ 109 x1.toNatClampNeg))) → K (some (.int (-11))) μ)) ∧ (((inB x1 0 3) = false) → K (some (.int (-2))) μ)) : Ev2 G mX8_judge 4 0 [(0, .ref 82), (1, .int x1), (2, .int x2), (3, .int x3)] [] μ K := by
  refine ev_iload_n dX8_judge_0 1 rfl ?_
  refine e2_callS (w := .int (bi (inB x1 0 3))) (μ1 := μ) (as := [.int x1]) (st := []) ok_X8_isSheet sv_X8_isSheet ml_8_288 dX8_judge_1 rfl rfl (Nat.le_of_ble_eq_true rfl) (Nat.le_of_ble_eq_true rfl) (by decide) (ct_X8_isSheet (x1) μ) ?_
  refine ev_ifne_bi (tgt := 10) dX8_judge_4 rfl (fun c1 => ?_) (fun c1 => ?_)
  · have h2 := h.1 c1
    refine ev_aload_n dX8_judge_10 0 rfl (by decide) ?_
    refine ev_getR' fl_8_225 rfl kd_82 rf_82_45 dX8_judge_11 ?_
    refine ev_iload_n dX8_judge_14 1 rfl ?_
    have p4 := h2.1
    have h5 := h2.2
    refine ev_iaload' (v := (μ 109 x1.toNatClampNeg)) kd_109 ln_109 p4 rfl dX8_judge_15 ?_
    refine ev_if_ge (tgt := 22) dX8_judge_16 rfl (fun c6 => ?_) (fun c6 => ?_)
    · have h7 := h5.1 c6
      refine ev_iload_n dX8_judge_22 2 rfl ?_
      refine e2_callS (w := .int (bi (inB x2 0 6))) (μ1 := μ) (as := [.int x2]) (st := []) ok_X8_isPlace sv_X8_isPlace ml_8_18 dX8_judge_23 rfl rfl (Nat.le_of_ble_eq_true rfl) (Nat.le_of_ble_eq_true rfl) (by decide) (ct_X8_isPlace (x2) μ) ?_
      refine ev_ifne_bi (tgt := 32) dX8_judge_26 rfl (fun c9 => ?_) (fun c9 => ?_)
      · have h10 := h7.1 c9
        refine ev_iload_n dX8_judge_32 3 rfl ?_
        refine ev_iconst (v := 0) dX8_judge_33 rfl ?_
        refine ev_iconst (v := 2) dX8_judge_34 rfl ?_
        refine e2_callS (w := .int (bi (inB x3 (0 : Int32) (2 : Int32)))) (μ1 := μ) (as := [.int x3, .int 0, .int 2]) (st := []) ok_X8_isIn sv_X8_isIn ml_8_3 dX8_judge_35 rfl rfl (Nat.le_of_ble_eq_true rfl) (Nat.le_of_ble_eq_true rfl) (by decide) (ct_X8_isIn (x3) (0) (2) μ) ?_
        refine ev_ifne_bi (tgt := 44) dX8_judge_38 rfl (fun c12 => ?_) (fun c12 => ?_)
        · have h13 := h10.1 c12
          refine ev_iconst (v := 0) dX8_judge_44 rfl ?_
          refine ev_istore (lv' := [(0, .ref 82), (1, .int x1), (2, .int x2), (3, .int x3), (4, .int 0)]) dX8_judge_45 (by decide) [1, 2, 3, 4, 0] rfl ?_
          refine ev_iload_n dX8_judge_47 2 rfl ?_
          refine ev_istore (lv' := [(0, .ref 82), (1, .int x1), (2, .int x2), (3, .int x3), (4, .int 0), (5, .int x2)]) dX8_judge_48 (by decide) [1, 2, 3, 4, 5, 0] rfl ?_
          refine ev_iconst (v := 0) dX8_judge_50 rfl ?_
          refine ev_istore (lv' := [(0, .ref 82), (1, .int x1), (2, .int x2), (3, .int x3), (4, .int 0), (5, .int x2), (6, .int 0)]) dX8_judge_51 (by decide) [1, 2, 3, 4, 5, 6, 0] rfl ?_
          refine ev_iconst (v := (-1)) dX8_judge_53 rfl ?_
          refine ev_istore (lv' := [(0, .ref 82), (1, .int x1), (2, .int x2), (3, .int x3), (4, .int 0), (5, .int x2), (6, .int 0), (7, .int (-1))]) dX8_judge_54 (by decide) [1, 2, 3, 4, 5, 6, 7, 0] rfl ?_
          refine ev_iconst (v := 0) dX8_judge_56 rfl ?_
          refine ev_istore (lv' := [(0, .ref 82), (1, .int x1), (2, .int x2), (3, .int x3), (4, .int 0), (5, .int x2), (6, .int 0), (7, .int (-1)), (8, .int 0)]) dX8_judge_57 (by decide) [1, 2, 3, 4, 5, 6, 7, 8, 0] rfl ?_
          refine EvW.less [0, 1, 3, 4, 5, 6, 7, 8] (lv' := [(0, .ref 82), (1, .int x1), (3, .int x3), (4, .int 0), (5, .int x2), (6, .int 0), (7, .int (-1)), (8, .int 0)]) rfl ?_
          exact h13
        · have h14 := h10.2 c12
          refine ev_bipush (v := (-7)) dX8_judge_41 rfl ?_
          exact ev_ireturn dX8_judge_43 rfl True.intro rfl rfl ⟨rfl, h14⟩
      · have h11 := h7.2 c9
        refine ev_bipush (v := (-5)) dX8_judge_29 rfl ?_
        exact ev_ireturn dX8_judge_31 rfl True.intro rfl rfl ⟨rfl, h11⟩
    · have h8 := h5.2 c6
      refine ev_bipush (v := (-11)) dX8_judge_19 rfl ?_
      exact ev_ireturn dX8_judge_21 rfl True.intro rfl rfl ⟨rfl, h8⟩
  · have h3 := h.2 c1
    refine ev_bipush (v := (-2)) dX8_judge_7 rfl ?_
    exact ev_ireturn dX8_judge_9 rfl True.intro rfl rfl ⟨rfl, h3⟩
theorem sg_X8_judge_59 {G : GW} {K : Option Value → Mem → Prop} {μ : Mem} {α : Mem} (hf : WF α) {x1 x3 x4 x5 x6 x7 x8 : Int32}  (h : (vp_in x1 4) ∧ (((μ 110 x1.toNatClampNeg) ≤ x8) → ((¬ x3 = 0) → ((¬ x3 = 1) → K (some (.int x5)) μ) ∧ ((x3 = 1) → K (some (.int x4)) μ)) ∧ ((x3 = 0) → K (some (.int x7)) μ)) ∧ ((¬ ((μ 110 x1.toNatClampNeg) ≤ x8)) → ((¬ x7 = (-1)) → ((¬ x3 = 0) → ((¬ x3 = 1) → K (some (.int x5)) μ) ∧ ((x3 = 1) → K (some (.int x4)) μ)) ∧ ((x3 = 0) → K (some (.int x7)) μ)) ∧ ((x7 = (-1)) → (vp_in ((40 * x1) + x8) 160) ∧ ∀ y23 : Int32, y23 = (μ 111 ((40 * x1) + x8).toNatClampNeg) → Ev2 G mX8_judge 4 104 [(0, .ref 82), (1, .int x1), (3, .int x3), (4, .int x4), (5, .int x5), (6, .int x6), (7, .int x7), (8, .int x8), (9, .int y23), (10, .int (y23 / 10)), (11, .int (y23 - y23 / 10 * 10))] [] μ K))) : Ev2 G mX8_judge 4 59 [(0, .ref 82), (1, .int x1), (3, .int x3), (4, .int x4), (5, .int x5), (6, .int x6), (7, .int x7), (8, .int x8)] [] μ K := by
  refine ev_iload dX8_judge_59 7 rfl ?_
  refine ev_aload_n dX8_judge_61 0 rfl (by decide) ?_
  refine ev_getR' fl_8_228 rfl kd_82 rf_82_46 dX8_judge_62 ?_
  refine ev_iload_n dX8_judge_65 1 rfl ?_
  have p1 := h.1
  have h2 := h.2
  refine ev_iaload' (v := (μ 110 x1.toNatClampNeg)) kd_110 ln_110 p1 rfl dX8_judge_66 ?_
  refine ev_icmp_ge (tgt := 278) dX8_judge_67 rfl (fun c3 => ?_) (fun c3 => ?_)
  · have h4 := h2.1 c3
    refine ev_iload_n dX8_judge_278 2 rfl ?_
    refine ev_if_ne (tgt := 287) dX8_judge_279 rfl (fun c6 => ?_) (fun c6 => ?_)
    · have h7 := h4.1 c6
      refine ev_iload_n dX8_judge_287 2 rfl ?_
      refine ev_iconst (v := 1) dX8_judge_288 rfl ?_
      refine ev_icmp_ne (tgt := 297) dX8_judge_289 rfl (fun c9 => ?_) (fun c9 => ?_)
      · have h10 := h7.1 c9
        refine ev_iload dX8_judge_297 4 rfl ?_
        exact ev_ireturn dX8_judge_299 rfl True.intro rfl rfl ⟨rfl, h10⟩
      · have h11 := h7.2 c9
        refine ev_iload dX8_judge_292 3 rfl ?_
        refine ev_goto (tgt := 299) dX8_judge_294 rfl ?_
        exact ev_ireturn dX8_judge_299 rfl True.intro rfl rfl ⟨rfl, h11⟩
    · have h8 := h4.2 c6
      refine ev_iload dX8_judge_282 6 rfl ?_
      refine ev_goto (tgt := 299) dX8_judge_284 rfl ?_
      exact ev_ireturn dX8_judge_299 rfl True.intro rfl rfl ⟨rfl, h8⟩
  · have h5 := h2.2 c3
    refine ev_iload dX8_judge_70 6 rfl ?_
    refine ev_iconst (v := (-1)) dX8_judge_72 rfl ?_
    refine ev_icmp_ne (tgt := 278) dX8_judge_73 rfl (fun c12 => ?_) (fun c12 => ?_)
    · have h13 := h5.1 c12
      refine ev_iload_n dX8_judge_278 2 rfl ?_
      refine ev_if_ne (tgt := 287) dX8_judge_279 rfl (fun c15 => ?_) (fun c15 => ?_)
      · have h16 := h13.1 c15
        refine ev_iload_n dX8_judge_287 2 rfl ?_
        refine ev_iconst (v := 1) dX8_judge_288 rfl ?_
        refine ev_icmp_ne (tgt := 297) dX8_judge_289 rfl (fun c18 => ?_) (fun c18 => ?_)
        · have h19 := h16.1 c18
          refine ev_iload dX8_judge_297 4 rfl ?_
          exact ev_ireturn dX8_judge_299 rfl True.intro rfl rfl ⟨rfl, h19⟩
        · have h20 := h16.2 c18
          refine ev_iload dX8_judge_292 3 rfl ?_
          refine ev_goto (tgt := 299) dX8_judge_294 rfl ?_
          exact ev_ireturn dX8_judge_299 rfl True.intro rfl rfl ⟨rfl, h20⟩
      · have h17 := h13.2 c15
        refine ev_iload dX8_judge_282 6 rfl ?_
        refine ev_goto (tgt := 299) dX8_judge_284 rfl ?_
        exact ev_ireturn dX8_judge_299 rfl True.intro rfl rfl ⟨rfl, h17⟩
    · have h14 := h5.2 c12
      refine ev_aload_n dX8_judge_76 0 rfl (by decide) ?_
      refine ev_getR' fl_8_231 rfl kd_82 rf_82_47 dX8_judge_77 ?_
      refine ev_bipush (v := 40) dX8_judge_80 rfl ?_
      refine ev_iload_n dX8_judge_82 1 rfl ?_
      refine ev_imul dX8_judge_83 ?_
      refine ev_iload dX8_judge_84 7 rfl ?_
      refine ev_iadd dX8_judge_86 ?_
      have p21 := h14.1
      have h22 := h14.2
      refine ev_iaload' (v := (μ 111 ((40 * x1) + x8).toNatClampNeg)) kd_111 ln_111 p21 rfl dX8_judge_87 ?_
      refine ev_top (fun y23 ey23 => ?_)
      have h24 := h22 y23 ey23
      refine ev_istore (lv' := [(0, .ref 82), (1, .int x1), (3, .int x3), (4, .int x4), (5, .int x5), (6, .int x6), (7, .int x7), (8, .int x8), (9, .int y23)]) dX8_judge_88 (by decide) [1, 2, 3, 4, 5, 6, 7, 8, 0] rfl ?_
      refine ev_iload dX8_judge_90 8 rfl ?_
      refine ev_bipush (v := 10) dX8_judge_92 rfl ?_
      refine ev_idiv dX8_judge_94 (by decide) ?_
      refine ev_istore (lv' := [(0, .ref 82), (1, .int x1), (3, .int x3), (4, .int x4), (5, .int x5), (6, .int x6), (7, .int x7), (8, .int x8), (9, .int y23), (10, .int (y23 / 10))]) dX8_judge_95 (by decide) [1, 2, 3, 4, 5, 6, 7, 8, 9, 0] rfl ?_
      refine ev_iload dX8_judge_97 8 rfl ?_
      refine ev_bipush (v := 10) dX8_judge_99 rfl ?_
      refine ev_irem dX8_judge_101 (by decide) ?_
      refine ev_istore (lv' := [(0, .ref 82), (1, .int x1), (3, .int x3), (4, .int x4), (5, .int x5), (6, .int x6), (7, .int x7), (8, .int x8), (9, .int y23), (10, .int (y23 / 10)), (11, .int (y23 - y23 / 10 * 10))]) dX8_judge_102 (by decide) [1, 2, 3, 4, 5, 6, 7, 8, 9, 10, 0] rfl ?_
      exact h24
theorem sg_X8_judge_104 {G : GW} {K : Option Value → Mem → Prop} {μ : Mem} {α : Mem} (hf : WF α) {x1 x3 x4 x5 x6 x7 x8 x9 x10 x11 : Int32}  (h : ((x9 < 0) → Ev2 G mX8_judge 4 138 [(0, .ref 82), (1, .int x1), (3, .int x3), (4, .int x4), (5, .int x5), (6, .int x6), (7, .int x7), (8, .int x8), (10, .int x10), (11, .int x11), (12, .int 0)] [] μ K) ∧ ((¬ (x9 < 0)) → ((7 < x10) → Ev2 G mX8_judge 4 138 [(0, .ref 82), (1, .int x1), (3, .int x3), (4, .int x4), (5, .int x5), (6, .int x6), (7, .int x7), (8, .int x8), (10, .int x10), (11, .int x11), (12, .int 0)] [] μ K) ∧ ((¬ (7 < x10)) → (((inB x11 0 6) = false) → Ev2 G mX8_judge 4 138 [(0, .ref 82), (1, .int x1), (3, .int x3), (4, .int x4), (5, .int x5), (6, .int x6), (7, .int x7), (8, .int x8), (10, .int x10), (11, .int x11), (12, .int 0)] [] μ K) ∧ (((inB x11 0 6) = true) → ((x11 = x5) → Ev2 G mX8_judge 4 138 [(0, .ref 82), (1, .int x1), (3, .int x3), (4, .int x4), (5, .int x5), (6, .int x6), (7, .int x7), (8, .int x8), (10, .int x10), (11, .int x11), (12, .int 0)] [] μ K) ∧ ((¬ (x11 = x5)) → Ev2 G mX8_judge 4 138 [(0, .ref 82), (1, .int x1), (3, .int x3), (4, .int x4), (5, .int x5), (6, .int x6), (7, .int x7), (8, .int x8), (10, .int x10), (11, .int x11), (12, .int 1)] [] μ K))))) : Ev2 G mX8_judge 4 104 [(0, .ref 82), (1, .int x1), (3, .int x3), (4, .int x4), (5, .int x5), (6, .int x6), (7, .int x7), (8, .int x8), (9, .int x9), (10, .int x10), (11, .int x11)] [] μ K := by
  refine ev_iload dX8_judge_104 8 rfl ?_
  refine ev_if_lt (tgt := 135) dX8_judge_106 rfl (fun c1 => ?_) (fun c1 => ?_)
  · have h2 := h.1 c1
    refine ev_iconst (v := 0) dX8_judge_135 rfl ?_
    refine ev_istore (lv' := [(0, .ref 82), (1, .int x1), (3, .int x3), (4, .int x4), (5, .int x5), (6, .int x6), (7, .int x7), (8, .int x8), (9, .int x9), (10, .int x10), (11, .int x11), (12, .int 0)]) dX8_judge_136 (by decide) [1, 2, 3, 4, 5, 6, 7, 8, 9, 10, 11, 0] rfl ?_
    refine EvW.less [0, 1, 2, 3, 4, 5, 6, 7, 9, 10, 11] (lv' := [(0, .ref 82), (1, .int x1), (3, .int x3), (4, .int x4), (5, .int x5), (6, .int x6), (7, .int x7), (8, .int x8), (10, .int x10), (11, .int x11), (12, .int 0)]) rfl ?_
    exact h2
  · have h3 := h.2 c1
    refine ev_iload dX8_judge_109 9 rfl ?_
    refine ev_bipush (v := 7) dX8_judge_111 rfl ?_
    refine ev_icmp_gt (tgt := 135) dX8_judge_113 rfl (fun c4 => ?_) (fun c4 => ?_)
    · have h5 := h3.1 c4
      refine ev_iconst (v := 0) dX8_judge_135 rfl ?_
      refine ev_istore (lv' := [(0, .ref 82), (1, .int x1), (3, .int x3), (4, .int x4), (5, .int x5), (6, .int x6), (7, .int x7), (8, .int x8), (9, .int x9), (10, .int x10), (11, .int x11), (12, .int 0)]) dX8_judge_136 (by decide) [1, 2, 3, 4, 5, 6, 7, 8, 9, 10, 11, 0] rfl ?_
      refine EvW.less [0, 1, 2, 3, 4, 5, 6, 7, 9, 10, 11] (lv' := [(0, .ref 82), (1, .int x1), (3, .int x3), (4, .int x4), (5, .int x5), (6, .int x6), (7, .int x7), (8, .int x8), (10, .int x10), (11, .int x11), (12, .int 0)]) rfl ?_
      exact h5
    · have h6 := h3.2 c4
      refine ev_iload dX8_judge_116 10 rfl ?_
      refine e2_callS (w := .int (bi (inB x11 0 6))) (μ1 := μ) (as := [.int x11]) (st := []) ok_X8_isPlace sv_X8_isPlace ml_8_18 dX8_judge_118 rfl rfl (Nat.le_of_ble_eq_true rfl) (Nat.le_of_ble_eq_true rfl) (by decide) (ct_X8_isPlace (x11) μ) ?_
      refine ev_ifeq_bi (tgt := 135) dX8_judge_121 rfl (fun c7 => ?_) (fun c7 => ?_)
      · have h8 := h6.1 c7
        refine ev_iconst (v := 0) dX8_judge_135 rfl ?_
        refine ev_istore (lv' := [(0, .ref 82), (1, .int x1), (3, .int x3), (4, .int x4), (5, .int x5), (6, .int x6), (7, .int x7), (8, .int x8), (9, .int x9), (10, .int x10), (11, .int x11), (12, .int 0)]) dX8_judge_136 (by decide) [1, 2, 3, 4, 5, 6, 7, 8, 9, 10, 11, 0] rfl ?_
        refine EvW.less [0, 1, 2, 3, 4, 5, 6, 7, 9, 10, 11] (lv' := [(0, .ref 82), (1, .int x1), (3, .int x3), (4, .int x4), (5, .int x5), (6, .int x6), (7, .int x7), (8, .int x8), (10, .int x10), (11, .int x11), (12, .int 0)]) rfl ?_
        exact h8
      · have h9 := h6.2 c7
        refine ev_iload dX8_judge_124 10 rfl ?_
        refine ev_iload dX8_judge_126 4 rfl ?_
        refine ev_icmp_eq (tgt := 135) dX8_judge_128 rfl (fun c10 => ?_) (fun c10 => ?_)
        · have h11 := h9.1 c10
          refine ev_iconst (v := 0) dX8_judge_135 rfl ?_
          refine ev_istore (lv' := [(0, .ref 82), (1, .int x1), (3, .int x3), (4, .int x4), (5, .int x5), (6, .int x6), (7, .int x7), (8, .int x8), (9, .int x9), (10, .int x10), (11, .int x11), (12, .int 0)]) dX8_judge_136 (by decide) [1, 2, 3, 4, 5, 6, 7, 8, 9, 10, 11, 0] rfl ?_
          refine EvW.less [0, 1, 2, 3, 4, 5, 6, 7, 9, 10, 11] (lv' := [(0, .ref 82), (1, .int x1), (3, .int x3), (4, .int x4), (5, .int x5), (6, .int x6), (7, .int x7), (8, .int x8), (10, .int x10), (11, .int x11), (12, .int 0)]) rfl ?_
          exact h11
        · have h12 := h9.2 c10
          refine ev_iconst (v := 1) dX8_judge_131 rfl ?_
          refine ev_goto (tgt := 136) dX8_judge_132 rfl ?_
          refine ev_istore (lv' := [(0, .ref 82), (1, .int x1), (3, .int x3), (4, .int x4), (5, .int x5), (6, .int x6), (7, .int x7), (8, .int x8), (9, .int x9), (10, .int x10), (11, .int x11), (12, .int 1)]) dX8_judge_136 (by decide) [1, 2, 3, 4, 5, 6, 7, 8, 9, 10, 11, 0] rfl ?_
          refine EvW.less [0, 1, 2, 3, 4, 5, 6, 7, 9, 10, 11] (lv' := [(0, .ref 82), (1, .int x1), (3, .int x3), (4, .int x4), (5, .int x5), (6, .int x6), (7, .int x7), (8, .int x8), (10, .int x10), (11, .int x11), (12, .int 1)]) rfl ?_
          exact h12
theorem sg_X8_judge_138 {G : GW} {K : Option Value → Mem → Prop} {μ : Mem} {α : Mem} (hf : WF α) {x1 x3 x4 x5 x6 x7 x8 x10 x11 : Int32} {x12 : Bool}  (h : ((x12 = false) → Ev2 G mX8_judge 4 189 [(0, .ref 82), (1, .int x1), (3, .int x3), (4, .int x4), (5, .int x5), (6, .int x6), (7, .int x7), (8, .int x8), (10, .int x10), (11, .int x11), (12, .int (bi x12))] [] μ K) ∧ ((x12 = true) → ((x10 = 7) → Ev2 G mX8_judge 4 189 [(0, .ref 82), (1, .int x1), (3, .int x3), (4, .int x4), (5, .int x5), (6, .int x6), (7, .int x7), (8, .int x8), (10, .int x10), (11, .int x11), (12, .int (bi x12))] [] μ K) ∧ ((¬ (x10 = 7)) → (((inB x10 0 (μ 82 4 - 1)) = false) → Ev2 G mX8_judge 4 189 [(0, .ref 82), (1, .int x1), (3, .int x3), (4, .int x4), (5, .int x5), (6, .int x6), (7, .int x7), (8, .int x8), (10, .int x10), (11, .int x11), (12, .int 0)] [] μ K) ∧ (((inB x10 0 (μ 82 4 - 1)) = true) → ((¬ ((x6 >>> (x10 &&& 31)) &&& 1) = 0) → Ev2 G mX8_judge 4 189 [(0, .ref 82), (1, .int x1), (3, .int x3), (4, .int x4), (5, .int x5), (6, .int x6), (7, .int x7), (8, .int x8), (10, .int x10), (11, .int x11), (12, .int 0)] [] μ K) ∧ ((((x6 >>> (x10 &&& 31)) &&& 1) = 0) → (VM α μ ∧ inB x10 0 (α 0 0 - 1) = true ∧ inB x5 0 6 = true) ∧ ((¬ (goA α x10.toNatClampNeg x5.toNatClampNeg) = x11) → Ev2 G mX8_judge 4 189 [(0, .ref 82), (1, .int x1), (3, .int x3), (4, .int x4), (5, .int x5), (6, .int x6), (7, .int x7), (8, .int x8), (10, .int x10), (11, .int x11), (12, .int 0)] [] μ K) ∧ (((goA α x10.toNatClampNeg x5.toNatClampNeg) = x11) → Ev2 G mX8_judge 4 189 [(0, .ref 82), (1, .int x1), (3, .int x3), (4, .int x4), (5, .int x5), (6, .int x6), (7, .int x7), (8, .int x8), (10, .int x10), (11, .int x11), (12, .int 1)] [] μ K)))))) : Ev2 G mX8_judge 4 138 [(0, .ref 82), (1, .int x1), (3, .int x3), (4, .int x4), (5, .int x5), (6, .int x6), (7, .int x7), (8, .int x8), (10, .int x10), (11, .int x11), (12, .int (bi x12))] [] μ K := by
  refine ev_iload dX8_judge_138 10 rfl ?_
  refine ev_ifeq_bi (tgt := 189) dX8_judge_140 rfl (fun c1 => ?_) (fun c1 => ?_)
  · have h2 := h.1 c1
    exact h2
  · have h3 := h.2 c1
    refine ev_iload dX8_judge_143 8 rfl ?_
    refine ev_bipush (v := 7) dX8_judge_145 rfl ?_
    refine ev_icmp_eq (tgt := 189) dX8_judge_147 rfl (fun c4 => ?_) (fun c4 => ?_)
    · have h5 := h3.1 c4
      exact h5
    · have h6 := h3.2 c4
      refine ev_aload_n dX8_judge_150 0 rfl (by decide) ?_
      refine ev_iload dX8_judge_151 8 rfl ?_
      refine e2_callV (w := .int (bi (inB x10 0 (μ 82 4 - 1)))) (μ1 := μ) (a := 82) (as := [.int x10]) (st := []) ok_X8_isHorse vi_X8_isHorse ml_8_57 hcl_8 kd_82 dX8_judge_153 rfl rfl (Nat.le_of_ble_eq_true rfl) (Nat.le_of_ble_eq_true rfl) (by decide) (ct_X8_isHorse (x10) μ) ?_
      refine ev_ifeq_bi (tgt := 186) dX8_judge_156 rfl (fun c7 => ?_) (fun c7 => ?_)
      · have h8 := h6.1 c7
        refine ev_iconst (v := 0) dX8_judge_186 rfl ?_
        refine ev_istore (lv' := [(0, .ref 82), (1, .int x1), (3, .int x3), (4, .int x4), (5, .int x5), (6, .int x6), (7, .int x7), (8, .int x8), (10, .int x10), (11, .int x11), (12, .int 0)]) dX8_judge_187 (by decide) [1, 2, 3, 4, 5, 6, 7, 8, 9, 10, 0] rfl ?_
        exact h8
      · have h9 := h6.2 c7
        refine ev_iload dX8_judge_159 5 rfl ?_
        refine ev_iload dX8_judge_161 8 rfl ?_
        refine ev_ishr dX8_judge_163 ?_
        refine ev_iconst (v := 1) dX8_judge_164 rfl ?_
        refine ev_iand dX8_judge_165 ?_
        refine ev_if_ne (tgt := 186) dX8_judge_166 rfl (fun c10 => ?_) (fun c10 => ?_)
        · have h11 := h9.1 c10
          refine ev_iconst (v := 0) dX8_judge_186 rfl ?_
          refine ev_istore (lv' := [(0, .ref 82), (1, .int x1), (3, .int x3), (4, .int x4), (5, .int x5), (6, .int x6), (7, .int x7), (8, .int x8), (10, .int x10), (11, .int x11), (12, .int 0)]) dX8_judge_187 (by decide) [1, 2, 3, 4, 5, 6, 7, 8, 9, 10, 0] rfl ?_
          exact h11
        · have h12 := h9.2 c10
          refine ev_aload_n dX8_judge_169 0 rfl (by decide) ?_
          refine ev_iload dX8_judge_170 8 rfl ?_
          refine ev_iload dX8_judge_172 4 rfl ?_
          have p13 := h12.1
          have h14 := h12.2
          refine e2_callV (w := .int (goA α x10.toNatClampNeg x5.toNatClampNeg)) (μ1 := μ) (a := 82) (as := [.int x10, .int x5]) (st := []) ok_X8_whither vi_X8_whither ml_8_76 hcl_8 kd_82 dX8_judge_174 rfl rfl (Nat.le_of_ble_eq_true rfl) (Nat.le_of_ble_eq_true rfl) (by decide) (ct_X8_whither hf (x10) (x5) μ p13) ?_
          refine ev_iload dX8_judge_177 9 rfl ?_
          refine ev_icmp_ne (tgt := 186) dX8_judge_179 rfl (fun c15 => ?_) (fun c15 => ?_)
          · have h16 := h14.1 c15
            refine ev_iconst (v := 0) dX8_judge_186 rfl ?_
            refine ev_istore (lv' := [(0, .ref 82), (1, .int x1), (3, .int x3), (4, .int x4), (5, .int x5), (6, .int x6), (7, .int x7), (8, .int x8), (10, .int x10), (11, .int x11), (12, .int 0)]) dX8_judge_187 (by decide) [1, 2, 3, 4, 5, 6, 7, 8, 9, 10, 0] rfl ?_
            exact h16
          · have h17 := h14.2 c15
            refine ev_iconst (v := 1) dX8_judge_182 rfl ?_
            refine ev_goto (tgt := 187) dX8_judge_183 rfl ?_
            refine ev_istore (lv' := [(0, .ref 82), (1, .int x1), (3, .int x3), (4, .int x4), (5, .int x5), (6, .int x6), (7, .int x7), (8, .int x8), (10, .int x10), (11, .int x11), (12, .int 1)]) dX8_judge_187 (by decide) [1, 2, 3, 4, 5, 6, 7, 8, 9, 10, 0] rfl ?_
            exact h17
theorem sg_X8_judge_189 {G : GW} {K : Option Value → Mem → Prop} {μ : Mem} {α : Mem} (hf : WF α) {x1 x3 x4 x5 x6 x7 x8 x10 x11 : Int32} {x12 : Bool}  (h : ((x12 = true) → ((¬ x10 = 7) → (vp_in x10 8) ∧ (VM α μ ∧ inB x10 0 (α 0 0 - 1) = true) ∧ ∀ (z11 : Int32) (μ12 : Mem), (z11 = outA α x10.toNatClampNeg ∧ onlyM 99 100 μ μ12) → ∀ y15 : Int32, y15 = ((imax x4 (μ 91 x10.toNatClampNeg)) + z11) → Ev2 G mX8_judge 4 248 [(0, .ref 82), (1, .int x1), (3, .int x3), (4, .int y15), (6, .int x6), (7, .int x7), (8, .int x8), (10, .int x10), (11, .int x11)] [] μ12 K) ∧ ((x10 = 7) → (vp_in ((7 * x5) + x11) 49) ∧ ∀ y19 : Int32, y19 = (x4 + (μ 83 ((7 * x5) + x11).toNatClampNeg)) → Ev2 G mX8_judge 4 248 [(0, .ref 82), (1, .int x1), (3, .int x3), (4, .int y19), (6, .int x6), (7, .int x7), (8, .int x8), (10, .int x10), (11, .int x11)] [] μ K)) ∧ ((x12 = false) → Ev2 G mX8_judge 4 59 [(0, .ref 82), (1, .int x1), (3, .int x3), (4, .int x4), (5, .int x5), (6, .int x6), (7, .int x8), (8, .int (x8 + 1))] [] μ K)) : Ev2 G mX8_judge 4 189 [(0, .ref 82), (1, .int x1), (3, .int x3), (4, .int x4), (5, .int x5), (6, .int x6), (7, .int x7), (8, .int x8), (10, .int x10), (11, .int x11), (12, .int (bi x12))] [] μ K := by
  refine ev_iload dX8_judge_189 10 rfl ?_
  refine ev_ifne_bi (tgt := 201) dX8_judge_191 rfl (fun c1 => ?_) (fun c1 => ?_)
  · have h2 := h.1 c1
    refine ev_iload dX8_judge_201 8 rfl ?_
    refine ev_bipush (v := 7) dX8_judge_203 rfl ?_
    refine ev_icmp_ne (tgt := 227) dX8_judge_205 rfl (fun c4 => ?_) (fun c4 => ?_)
    · have h5 := h2.1 c4
      refine ev_iload dX8_judge_227 3 rfl ?_
      refine ev_aload_n dX8_judge_229 0 rfl (by decide) ?_
      refine ev_getR' fl_8_50 rfl kd_82 rf_82_10 dX8_judge_230 ?_
      refine ev_iload dX8_judge_233 8 rfl ?_
      have p7 := h5.1
      have h8 := h5.2
      refine ev_iaload' (v := (μ 91 x10.toNatClampNeg)) kd_91 ln_91 p7 rfl dX8_judge_235 ?_
      refine ev_max ml_8_64 dX8_judge_236 (Nat.le_of_ble_eq_true rfl) (by decide) ⟨Nat.le_refl _, Nat.le_refl _⟩ ?_
      refine ev_aload_n dX8_judge_239 0 rfl (by decide) ?_
      refine ev_iload dX8_judge_240 8 rfl ?_
      have p9 := h8.1
      have h10 := h8.2
      refine e2_callVr (Rl := fun z11 μ12 => z11 = outA α x10.toNatClampNeg ∧ onlyM 99 100 μ μ12) (a := 82) (as := [.int x10]) (st := [.int (imax x4 (μ 91 x10.toNatClampNeg))]) ok_X8_outOf vi_X8_outOf ml_8_69 hcl_8 kd_82 dX8_judge_242 rfl rfl (Nat.le_of_ble_eq_true rfl) (Nat.le_of_ble_eq_true rfl) (by decide) (ct_X8_outOf hf (x10) μ p9) (fun z11 μ12 r13 => ?_)
      have h14 := h10 z11 μ12 r13
      refine ev_iadd dX8_judge_245 ?_
      refine ev_top (fun y15 ey15 => ?_)
      have h16 := h14 y15 ey15
      refine ev_istore (lv' := [(0, .ref 82), (1, .int x1), (3, .int x3), (4, .int y15), (5, .int x5), (6, .int x6), (7, .int x7), (8, .int x8), (10, .int x10), (11, .int x11), (12, .int (bi x12))]) dX8_judge_246 (by decide) [1, 2, 3, 0, 4, 5, 6, 7, 8, 9, 10] rfl ?_
      refine EvW.less [0, 1, 2, 3, 5, 6, 7, 8, 9] (lv' := [(0, .ref 82), (1, .int x1), (3, .int x3), (4, .int y15), (6, .int x6), (7, .int x7), (8, .int x8), (10, .int x10), (11, .int x11)]) rfl ?_
      exact h16
    · have h6 := h2.2 c4
      refine ev_iload dX8_judge_208 3 rfl ?_
      refine ev_aload_n dX8_judge_210 0 rfl (by decide) ?_
      refine ev_getR' fl_8_14 rfl kd_82 rf_82_0 dX8_judge_211 ?_
      refine ev_bipush (v := 7) dX8_judge_214 rfl ?_
      refine ev_iload dX8_judge_216 4 rfl ?_
      refine ev_imul dX8_judge_218 ?_
      refine ev_iload dX8_judge_219 9 rfl ?_
      refine ev_iadd dX8_judge_221 ?_
      have p17 := h6.1
      have h18 := h6.2
      refine ev_iaload' (v := (μ 83 ((7 * x5) + x11).toNatClampNeg)) kd_83 ln_83 p17 rfl dX8_judge_222 ?_
      refine ev_iadd dX8_judge_223 ?_
      refine ev_goto (tgt := 246) dX8_judge_224 rfl ?_
      refine ev_top (fun y19 ey19 => ?_)
      have h20 := h18 y19 ey19
      refine ev_istore (lv' := [(0, .ref 82), (1, .int x1), (3, .int x3), (4, .int y19), (5, .int x5), (6, .int x6), (7, .int x7), (8, .int x8), (10, .int x10), (11, .int x11), (12, .int (bi x12))]) dX8_judge_246 (by decide) [1, 2, 3, 0, 4, 5, 6, 7, 8, 9, 10] rfl ?_
      refine EvW.less [0, 1, 2, 3, 5, 6, 7, 8, 9] (lv' := [(0, .ref 82), (1, .int x1), (3, .int x3), (4, .int y19), (6, .int x6), (7, .int x7), (8, .int x8), (10, .int x10), (11, .int x11)]) rfl ?_
      exact h20
  · have h3 := h.2 c1
    refine ev_iload dX8_judge_194 7 rfl ?_
    refine ev_istore (lv' := [(0, .ref 82), (1, .int x1), (3, .int x3), (4, .int x4), (5, .int x5), (6, .int x6), (7, .int x8), (8, .int x8), (10, .int x10), (11, .int x11), (12, .int (bi x12))]) dX8_judge_196 (by decide) [1, 2, 3, 4, 5, 6, 0, 7, 8, 9, 10] rfl ?_
    refine ev_goto (tgt := 272) dX8_judge_198 rfl ?_
    refine ev_iinc (v := (x8 + 1)) (lv' := [(0, .ref 82), (1, .int x1), (3, .int x3), (4, .int x4), (5, .int x5), (6, .int x6), (7, .int x8), (8, .int (x8 + 1)), (10, .int x10), (11, .int x11), (12, .int (bi x12))]) dX8_judge_272 7 rfl rfl (by decide) [1, 2, 3, 4, 5, 6, 7, 0, 8, 9, 10] rfl ?_
    refine ev_goto (tgt := 59) dX8_judge_275 rfl ?_
    refine EvW.less [0, 1, 2, 3, 4, 5, 6, 7] (lv' := [(0, .ref 82), (1, .int x1), (3, .int x3), (4, .int x4), (5, .int x5), (6, .int x6), (7, .int x8), (8, .int (x8 + 1))]) rfl ?_
    exact h3
theorem sg_X8_judge_248 {G : GW} {K : Option Value → Mem → Prop} {μ : Mem} {α : Mem} (hf : WF α) {x1 x3 x4 x6 x7 x8 x10 x11 : Int32}  (h : ((¬ x10 = 7) → ∀ y4 : Int32, y4 = (x6 ||| ((1 : Int32) <<< (x10 &&& 31))) → Ev2 G mX8_judge 4 59 [(0, .ref 82), (1, .int x1), (3, .int x3), (4, .int x4), (5, .int x11), (6, .int y4), (7, .int x7), (8, .int (x8 + 1))] [] μ K) ∧ ((x10 = 7) → Ev2 G mX8_judge 4 59 [(0, .ref 82), (1, .int x1), (3, .int x3), (4, .int x4), (5, .int x11), (6, .int (x6 ||| 0)), (7, .int x7), (8, .int (x8 + 1))] [] μ K)) : Ev2 G mX8_judge 4 248 [(0, .ref 82), (1, .int x1), (3, .int x3), (4, .int x4), (6, .int x6), (7, .int x7), (8, .int x8), (10, .int x10), (11, .int x11)] [] μ K := by
  refine ev_iload dX8_judge_248 4 rfl ?_
  refine ev_iload dX8_judge_250 7 rfl ?_
  refine ev_bipush (v := 7) dX8_judge_252 rfl ?_
  refine ev_icmp_ne (tgt := 261) dX8_judge_254 rfl (fun c1 => ?_) (fun c1 => ?_)
  · have h2 := h.1 c1
    refine ev_iconst (v := 1) dX8_judge_261 rfl ?_
    refine ev_iload dX8_judge_262 7 rfl ?_
    refine ev_ishl dX8_judge_264 ?_
    refine ev_ior dX8_judge_265 ?_
    refine ev_top (fun y4 ey4 => ?_)
    have h5 := h2 y4 ey4
    refine ev_istore (lv' := [(0, .ref 82), (1, .int x1), (3, .int x3), (4, .int x4), (6, .int y4), (7, .int x7), (8, .int x8), (10, .int x10), (11, .int x11)]) dX8_judge_266 (by decide) [1, 2, 3, 4, 0, 5, 6, 7, 8] rfl ?_
    refine ev_iload dX8_judge_268 8 rfl ?_
    refine ev_istore (lv' := [(0, .ref 82), (1, .int x1), (3, .int x3), (4, .int x4), (5, .int x11), (6, .int y4), (7, .int x7), (8, .int x8), (10, .int x10), (11, .int x11)]) dX8_judge_270 (by decide) [1, 2, 3, 4, 0, 5, 6, 7, 8, 9] rfl ?_
    refine ev_iinc (v := (x8 + 1)) (lv' := [(0, .ref 82), (1, .int x1), (3, .int x3), (4, .int x4), (5, .int x11), (6, .int y4), (7, .int x7), (8, .int (x8 + 1)), (10, .int x10), (11, .int x11)]) dX8_judge_272 7 rfl rfl (by decide) [1, 2, 3, 4, 5, 6, 7, 0, 8, 9] rfl ?_
    refine ev_goto (tgt := 59) dX8_judge_275 rfl ?_
    refine EvW.less [0, 1, 2, 3, 4, 5, 6, 7] (lv' := [(0, .ref 82), (1, .int x1), (3, .int x3), (4, .int x4), (5, .int x11), (6, .int y4), (7, .int x7), (8, .int (x8 + 1))]) rfl ?_
    exact h5
  · have h3 := h.2 c1
    refine ev_iconst (v := 0) dX8_judge_257 rfl ?_
    refine ev_goto (tgt := 265) dX8_judge_258 rfl ?_
    refine ev_ior dX8_judge_265 ?_
    refine ev_istore (lv' := [(0, .ref 82), (1, .int x1), (3, .int x3), (4, .int x4), (6, .int (x6 ||| 0)), (7, .int x7), (8, .int x8), (10, .int x10), (11, .int x11)]) dX8_judge_266 (by decide) [1, 2, 3, 4, 0, 5, 6, 7, 8] rfl ?_
    refine ev_iload dX8_judge_268 8 rfl ?_
    refine ev_istore (lv' := [(0, .ref 82), (1, .int x1), (3, .int x3), (4, .int x4), (5, .int x11), (6, .int (x6 ||| 0)), (7, .int x7), (8, .int x8), (10, .int x10), (11, .int x11)]) dX8_judge_270 (by decide) [1, 2, 3, 4, 0, 5, 6, 7, 8, 9] rfl ?_
    refine ev_iinc (v := (x8 + 1)) (lv' := [(0, .ref 82), (1, .int x1), (3, .int x3), (4, .int x4), (5, .int x11), (6, .int (x6 ||| 0)), (7, .int x7), (8, .int (x8 + 1)), (10, .int x10), (11, .int x11)]) dX8_judge_272 7 rfl rfl (by decide) [1, 2, 3, 4, 5, 6, 7, 0, 8, 9] rfl ?_
    refine ev_goto (tgt := 59) dX8_judge_275 rfl ?_
    refine EvW.less [0, 1, 2, 3, 4, 5, 6, 7] (lv' := [(0, .ref 82), (1, .int x1), (3, .int x3), (4, .int x4), (5, .int x11), (6, .int (x6 ||| 0)), (7, .int x7), (8, .int (x8 + 1))]) rfl ?_
    exact h3
theorem can_no1 {α : Mem} {v p t : Int32} (h : ¬ (¬ v < 0 ∧ ¬ 7 < v / 10 ∧ inB (irem v 10) 0 6 = true ∧ ¬ irem v 10 = p)) : canA α v p t = false := by
  refine Bool.eq_false_iff.mpr (fun q => h ?_)
  simp only [canA, Bool.and_eq_true, Bool.not_eq_true', decide_eq_true_eq, decide_eq_false_iff_not] at q
  exact ⟨Int32.not_lt.mpr q.1, Int32.not_lt.mpr q.2.1, q.2.2.1, q.2.2.2.1⟩
theorem can_7 {α : Mem} {v p t : Int32} (h : ¬ v < 0 ∧ ¬ 7 < v / 10 ∧ inB (irem v 10) 0 6 = true ∧ ¬ irem v 10 = p) (h7 : v / 10 = 7) : canA α v p t = true := by
  simp only [canA, Bool.and_eq_true, Bool.not_eq_true', Bool.or_eq_true, decide_eq_true_eq, decide_eq_false_iff_not]
  exact ⟨Int32.not_lt.mp h.1, Int32.not_lt.mp h.2.1, h.2.2.1, h.2.2.2, Or.inl h7⟩
theorem can_h {α : Mem} {v p t : Int32} (h : ¬ v < 0 ∧ ¬ 7 < v / 10 ∧ inB (irem v 10) 0 6 = true ∧ ¬ irem v 10 = p) (h7 : ¬ v / 10 = 7) (hp : inB p 0 6 = true) : canA α v p t = (inB (v / 10) 0 (α 0 0 - 1) && (!bitB t (v / 10) && decide (goA α (v / 10).toNatClampNeg p.toNatClampNeg = irem v 10))) := by
  have e1 := decide_eq_true (Int32.not_lt.mp h.1)
  have e2 := decide_eq_true (Int32.not_lt.mp h.2.1)
  have e4 := decide_eq_false h.2.2.2
  have e5 := decide_eq_false h7
  obtain ⟨q, hq, rfl⟩ := inB_p hp
  unfold canA goA
  rw [e1, e2, h.2.2.1, e4, e5, ix_nI (i := q) (by omega)]
  simp only [Bool.true_and, Bool.not_false, Bool.false_or]
theorem lp_X8_can {G : GW} {K : Option Value → Mem → Prop} {α μ : Mem} (hf : WF α) (h : VM α μ) {x1 x3 x4 p t x7 x8 v : Int32} (hp : inB p 0 6 = true) (hk : Ev2 G mX8_judge 4 189 [(0, .ref 82), (1, .int x1), (3, .int x3), (4, .int x4), (5, .int p), (6, .int t), (7, .int x7), (8, .int x8), (10, .int (v / 10)), (11, .int (irem v 10)), (12, .int (bi (canA α v p t)))] [] μ K) : Ev2 G mX8_judge 4 104 [(0, .ref 82), (1, .int x1), (3, .int x3), (4, .int x4), (5, .int p), (6, .int t), (7, .int x7), (8, .int x8), (9, .int v), (10, .int (v / 10)), (11, .int (irem v 10))] [] μ K := by
  have no : canA α v p t = false → Ev2 G mX8_judge 4 138 [(0, .ref 82), (1, .int x1), (3, .int x3), (4, .int x4), (5, .int p), (6, .int t), (7, .int x7), (8, .int x8), (10, .int (v / 10)), (11, .int (irem v 10)), (12, .int 0)] [] μ K := fun c => sg_X8_judge_138 (x12 := false) hf ⟨fun _ => by rw [c] at hk; exact hk, fun q => absurd q (by decide)⟩
  refine sg_X8_judge_104 hf ⟨fun c => no (can_no1 (fun q => q.1 c)), fun c1 => ⟨fun c => no (can_no1 (fun q => q.2.1 c)), fun c2 => ⟨fun c => no (can_no1 (fun q => by rw [q.2.2.1] at c; cases c)), fun c3 => ⟨fun c => no (can_no1 (fun q => q.2.2.2 c)), fun c4 => ?_⟩⟩⟩⟩
  have hc : ¬ v < 0 ∧ ¬ 7 < v / 10 ∧ inB (irem v 10) 0 6 = true ∧ ¬ irem v 10 = p := ⟨c1, c2, c3, c4⟩
  refine sg_X8_judge_138 (x12 := true) hf ⟨fun q => absurd q (by decide), fun _ => ⟨fun c => ?_, fun c => ?_⟩⟩
  · rw [can_7 hc c] at hk
    exact hk
  · rw [can_h hc c hp] at hk
    rw [h.1.1]
    refine ⟨fun d => ?_, fun d => ⟨fun e => ?_, fun e => ⟨⟨h, d, hp⟩, fun f => ?_, fun f => ?_⟩⟩⟩
    · rw [d] at hk
      exact hk
    · have eb : bitB t (v / 10) = true := by
        cases hb : bitB t (v / 10)
        · exact absurd (bitB_0.mp hb) e
        · rfl
      rw [d, eb] at hk
      exact hk
    · rw [d, bitB_0.mpr e, decide_eq_false f] at hk
      exact hk
    · rw [d, bitB_0.mpr e, decide_eq_true f] at hk
      exact hk
theorem lp_X8_judge {G : GW} {α μ0 : Mem} (hf : WF α) {s z : Nat} (hs : s < 4) (hz : z ≤ 40) (ez : α 15 s = nI z) {x3 : Int32} : ∀ j i (p m t : Int32) (μ : Mem), i + j = z → inB p 0 6 = true → VM α μ → keepX μ0 μ → Ev2 G mX8_judge 4 59 [(0, .ref 82), (1, .int (nI s)), (3, .int x3), (4, .int m), (5, .int p), (6, .int t), (7, .int (-1)), (8, .int (nI i))] [] μ (fun v μ' => v = some (.int (judA α s x3 j i p m t)) ∧ VM α μ' ∧ keepX μ0 μ') := by
  have v4 : vp_in (nI s) 4 := vp_nI hs (by omega)
  intro j
  induction j with
  | zero =>
    intro i p m t μ hi hp h hm
    obtain rfl : i = z := by omega
    refine sg_X8_judge_59 hf ⟨v4, ?_⟩
    rw [ix_nI (i := s) (by omega), (h.sh hs).2.1, ez]
    refine ⟨fun _ => ⟨fun c => ⟨fun d => ⟨?_, h, hm⟩, fun d => ⟨?_, h, hm⟩⟩, fun c => ⟨?_, h, hm⟩⟩, fun c => absurd (Int32.le_refl _) c⟩
    · rw [judA, sel3_2 c d]
    · rw [judA, sel3_1 c d]
    · rw [judA, sel3_0 c]
  | succ j ih =>
    intro i p m t μ hi hp h hm
    obtain ⟨q1, q2⟩ := ix_40 hs (show i < 40 by omega)
    obtain ⟨e1, e2, e3⟩ := h.sh hs
    refine sg_X8_judge_59 hf ⟨v4, ?_⟩
    rw [ix_nI (i := s) (by omega), e2, ez, q2, e3 i (by omega)]
    refine ⟨fun c => absurd c (nI_ge (by omega) (by omega)), fun _ => ⟨fun c => absurd rfl c, fun _ => ⟨q1, fun v hv => ?_⟩⟩⟩
    refine lp_X8_can hf h hp ?_
    rw [judA_succ, ← hv]
    cases hcan : canA α v p t with
    | false =>
      rw [if_neg (by decide)]
      refine sg_X8_judge_189 (x12 := false) hf ⟨fun q => absurd q (by decide), fun _ => ?_⟩
      have out : (¬ x3 = 0 → (¬ x3 = 1 → some (Value.int p) = some (Value.int (sel3 x3 (nI i) m p)) ∧ VM α μ ∧ keepX μ0 μ) ∧ (x3 = 1 → some (Value.int m) = some (Value.int (sel3 x3 (nI i) m p)) ∧ VM α μ ∧ keepX μ0 μ)) ∧ (x3 = 0 → some (Value.int (nI i)) = some (Value.int (sel3 x3 (nI i) m p)) ∧ VM α μ ∧ keepX μ0 μ) := by
        refine ⟨fun c => ⟨fun d => ⟨?_, h, hm⟩, fun d => ⟨?_, h, hm⟩⟩, fun c => ⟨?_, h, hm⟩⟩
        · rw [sel3_2 c d]
        · rw [sel3_1 c d]
        · rw [sel3_0 c]
      exact sg_X8_judge_59 hf ⟨v4, fun _ => out, fun _ => ⟨fun _ => out, fun c => absurd c (nI_m (by omega))⟩⟩
    | true =>
      rw [if_pos rfl]
      obtain ⟨ht, hb⟩ := canA_t hcan
      refine sg_X8_judge_189 (x12 := true) hf ⟨fun _ => ⟨fun d => ?_, fun d => ?_⟩, fun q => absurd q (by decide)⟩
      · have hb := hb.resolve_left d
        rw [if_neg d]
        obtain ⟨k, hk, hk7, ek⟩ := vH' hf hb
        rw [ek] at hb d ⊢
        rw [ix_nI (i := k) (by omega)]
        refine ⟨vp_nI (by omega) (by omega), ⟨h, hb⟩, fun x ν hx y hy => ?_⟩
        obtain ⟨h1, k1⟩ := h.W hf hx.2
        have hy2 : y = tmA α k m := by rw [hy, hx.1, (h.h1 hk).2.2.2.2.2]; rfl
        refine sg_X8_judge_248 hf ⟨fun _ y2 hy3 => ?_, fun q => absurd q d⟩
        have hh := ih (i + 1) (irem v 10) (tmA α k m) (t ||| (1 <<< (nI k &&& 31))) ν (by omega) ht h1 (hm.tr k1)
        rw [hy2, hy3, nI_1]
        exact hh
      · rw [if_pos d]
        obtain ⟨a, ha, rfl⟩ := inB_p hp
        obtain ⟨b, hb7, eb⟩ := inB_p ht
        rw [eb] at ht ⊢
        obtain ⟨w1, w2⟩ := ix_7 ha hb7
        rw [w2, h.2.1 _ (by omega), ix_nI (i := a) (by omega), ix_nI (i := b) (by omega)]
        refine ⟨w1, fun y hy => ?_⟩
        refine sg_X8_judge_248 hf ⟨fun q => absurd d q, fun _ => ?_⟩
        have hh := ih (i + 1) (nI b) (m + α 1 (7 * a + b)) t μ (by omega) ht h hm
        rw [hy, nI_1, Int32.or_zero]
        exact hh
theorem pb_X8_judge {G : GW} {α μ : Mem} (hf : WF α) (h : VM α μ) (x1 x2 x3 : Int32) : pubM G mX8_judge 4 [(0, .ref 82), (1, .int x1), (2, .int x2), (3, .int x3)] α μ (.int (sp_judge α x1 x2 x3)) α := by
  have hk := keepX.rf μ
  unfold sp_judge
  refine sg_X8_judge_0 hf ⟨fun c => ?_, fun c => ?_⟩
  · obtain ⟨s, hs, rfl⟩ := inB_s c
    obtain ⟨e1, e2, -⟩ := h.sh hs
    obtain ⟨-, z, hz, ez⟩ := hf.2.2.2.2.2.2.2 s hs
    rw [if_pos c, ix_nI (i := s) (by omega), e1, sort_of hf hs]
    refine ⟨vp_nI hs (by omega), fun d => ⟨fun e => ⟨fun f => ?_, fun f => ?_⟩, fun e => ?_⟩, fun d => ?_⟩
    · rw [if_neg d, if_pos e, if_pos f, ez, ix_nI (by omega)]
      exact lp_X8_judge hf hs hz ez z 0 x2 0 0 μ (Nat.zero_add _) e h hk
    · rw [if_neg d, if_pos e, if_neg (by rw [f]; decide)]
      exact ⟨rfl, h, hk⟩
    · rw [if_neg d, if_neg (by rw [e]; decide)]
      exact ⟨rfl, h, hk⟩
    · rw [if_pos (Decidable.not_not.mp d)]
      exact ⟨rfl, h, hk⟩
  · rw [if_neg (by rw [c]; decide)]
    exact ⟨rfl, h, hk⟩
/-! wet -/
theorem sg_X8_wet_0 {G : GW} {K : Option Value → Mem → Prop} {μ : Mem} {α : Mem} (hf : WF α) {x1 x2 : Int32}  (h : (((inB x1 (0 : Int32) ((((1 : Int32) <<< (μ 82 4 &&& 31)) - 1))) = false) → K (some (.int (-2))) μ) ∧ (((inB x1 (0 : Int32) ((((1 : Int32) <<< (μ 82 4 &&& 31)) - 1))) = true) → (((inB x2 (0 : Int32) (1 : Int32)) = true) → Ev2 G mX8_wet 5 32 [(0, .ref 82), (1, .int x1), (2, .int x2), (3, .int 0), (4, .int (-1)), (5, .int 0)] [] μ K) ∧ (((inB x2 (0 : Int32) (1 : Int32)) = false) → K (some (.int (-2))) μ))) : Ev2 G mX8_wet 5 0 [(0, .ref 82), (1, .int x1), (2, .int x2)] [] μ K := by
  refine ev_iload_n dX8_wet_0 1 rfl ?_
  refine ev_iconst (v := 0) dX8_wet_1 rfl ?_
  refine ev_aload_n dX8_wet_2 0 rfl (by decide) ?_
  refine e2_callV (w := .int ((((1 : Int32) <<< (μ 82 4 &&& 31)) - 1))) (μ1 := μ) (a := 82) (as := []) (st := [.int 0, .int x1]) ok_X8_everyOne vi_X8_everyOne ml_8_262 hcl_8 kd_82 dX8_wet_3 rfl rfl (Nat.le_of_ble_eq_true rfl) (Nat.le_of_ble_eq_true rfl) (by decide) (ct_X8_everyOne μ) ?_
  refine e2_callS (w := .int (bi (inB x1 (0 : Int32) ((((1 : Int32) <<< (μ 82 4 &&& 31)) - 1))))) (μ1 := μ) (as := [.int x1, .int 0, .int ((((1 : Int32) <<< (μ 82 4 &&& 31)) - 1))]) (st := []) ok_X8_isIn sv_X8_isIn ml_8_3 dX8_wet_6 rfl rfl (Nat.le_of_ble_eq_true rfl) (Nat.le_of_ble_eq_true rfl) (by decide) (ct_X8_isIn (x1) (0) (((((1 : Int32) <<< (μ 82 4 &&& 31)) - 1))) μ) ?_
  refine ev_ifeq_bi (tgt := 21) dX8_wet_9 rfl (fun c1 => ?_) (fun c1 => ?_)
  · have h2 := h.1 c1
    refine ev_bipush (v := (-2)) dX8_wet_21 rfl ?_
    exact ev_ireturn dX8_wet_23 rfl True.intro rfl rfl ⟨rfl, h2⟩
  · have h3 := h.2 c1
    refine ev_iload_n dX8_wet_12 2 rfl ?_
    refine ev_iconst (v := 0) dX8_wet_13 rfl ?_
    refine ev_iconst (v := 1) dX8_wet_14 rfl ?_
    refine e2_callS (w := .int (bi (inB x2 (0 : Int32) (1 : Int32)))) (μ1 := μ) (as := [.int x2, .int 0, .int 1]) (st := []) ok_X8_isIn sv_X8_isIn ml_8_3 dX8_wet_15 rfl rfl (Nat.le_of_ble_eq_true rfl) (Nat.le_of_ble_eq_true rfl) (by decide) (ct_X8_isIn (x2) (0) (1) μ) ?_
    refine ev_ifne_bi (tgt := 24) dX8_wet_18 rfl (fun c4 => ?_) (fun c4 => ?_)
    · have h5 := h3.1 c4
      refine ev_iconst (v := 0) dX8_wet_24 rfl ?_
      refine ev_istore_n (lv' := [(0, .ref 82), (1, .int x1), (2, .int x2), (3, .int 0)]) dX8_wet_25 (by decide) [1, 2, 3, 0] rfl ?_
      refine ev_iconst (v := (-1)) dX8_wet_26 rfl ?_
      refine ev_istore (lv' := [(0, .ref 82), (1, .int x1), (2, .int x2), (3, .int 0), (4, .int (-1))]) dX8_wet_27 (by decide) [1, 2, 3, 4, 0] rfl ?_
      refine ev_iconst (v := 0) dX8_wet_29 rfl ?_
      refine ev_istore (lv' := [(0, .ref 82), (1, .int x1), (2, .int x2), (3, .int 0), (4, .int (-1)), (5, .int 0)]) dX8_wet_30 (by decide) [1, 2, 3, 4, 5, 0] rfl ?_
      exact h5
    · have h6 := h3.2 c4
      refine ev_bipush (v := (-2)) dX8_wet_21 rfl ?_
      exact ev_ireturn dX8_wet_23 rfl True.intro rfl rfl ⟨rfl, h6⟩
theorem sg_X8_wet_32 {G : GW} {K : Option Value → Mem → Prop} {μ : Mem} {α : Mem} (hf : WF α) {x1 x2 x3 x4 x5 : Int32}  (h : ((7 ≤ x5) → ((¬ x2 = 0) → K (some (.int x4)) μ) ∧ ((x2 = 0) → K (some (.int x3)) μ)) ∧ ((¬ (7 ≤ x5)) → (VM α μ ∧ inB x5 0 6 = true ∧ setOK (aN α) ((((1 : Int32) <<< (μ 82 4 &&& 31)) - 1))) ∧ ∀ μ9 : Mem, (onlyM 99 105 μ μ9 ∧ eq7 (get4 101 μ9) (refS α ((((1 : Int32) <<< (μ 82 4 &&& 31)) - 1)) x5.toNatClampNeg)) → Ev2 G mX8_wet 5 52 [(0, .ref 82), (1, .int x1), (2, .int x2), (3, .int x3), (4, .int x4), (5, .int x5), (6, .int 0)] [] μ9 K)) : Ev2 G mX8_wet 5 32 [(0, .ref 82), (1, .int x1), (2, .int x2), (3, .int x3), (4, .int x4), (5, .int x5)] [] μ K := by
  refine ev_iload dX8_wet_32 5 rfl ?_
  refine ev_bipush (v := 7) dX8_wet_34 rfl ?_
  refine ev_icmp_ge (tgt := 114) dX8_wet_36 rfl (fun c1 => ?_) (fun c1 => ?_)
  · have h2 := h.1 c1
    refine ev_iload_n dX8_wet_114 2 rfl ?_
    refine ev_if_ne (tgt := 122) dX8_wet_115 rfl (fun c4 => ?_) (fun c4 => ?_)
    · have h5 := h2.1 c4
      refine ev_iload dX8_wet_122 4 rfl ?_
      exact ev_ireturn dX8_wet_124 rfl True.intro rfl rfl ⟨rfl, h5⟩
    · have h6 := h2.2 c4
      refine ev_iload_n dX8_wet_118 3 rfl ?_
      refine ev_goto (tgt := 124) dX8_wet_119 rfl ?_
      exact ev_ireturn dX8_wet_124 rfl True.intro rfl rfl ⟨rfl, h6⟩
  · have h3 := h.2 c1
    refine ev_aload_n dX8_wet_39 0 rfl (by decide) ?_
    refine ev_iload dX8_wet_40 5 rfl ?_
    refine ev_aload_n dX8_wet_42 0 rfl (by decide) ?_
    refine e2_callV (w := .int ((((1 : Int32) <<< (μ 82 4 &&& 31)) - 1))) (μ1 := μ) (a := 82) (as := []) (st := [.int x5, .ref 82]) ok_X8_everyOne vi_X8_everyOne ml_8_262 hcl_8 kd_82 dX8_wet_43 rfl rfl (Nat.le_of_ble_eq_true rfl) (Nat.le_of_ble_eq_true rfl) (by decide) (ct_X8_everyOne μ) ?_
    have p7 := h3.1
    have h8 := h3.2
    refine e2_callVrv (Rl := fun μ9 => onlyM 99 105 μ μ9 ∧ eq7 (get4 101 μ9) (refS α ((((1 : Int32) <<< (μ 82 4 &&& 31)) - 1)) x5.toNatClampNeg)) (a := 82) (as := [.int x5, .int ((((1 : Int32) <<< (μ 82 4 &&& 31)) - 1))]) (st := []) ok_X8_goFrom vi_X8_goFrom ml_8_256 hcl_8 kd_82 dX8_wet_46 rfl rfl (Nat.le_of_ble_eq_true rfl) (Nat.le_of_ble_eq_true rfl) (by decide) (ct_X8_goFrom hf (x5) (((((1 : Int32) <<< (μ 82 4 &&& 31)) - 1))) μ p7) (fun μ9 r10 => ?_)
    have h11 := h8 μ9 r10
    refine ev_iconst (v := 0) dX8_wet_49 rfl ?_
    refine ev_istore (lv' := [(0, .ref 82), (1, .int x1), (2, .int x2), (3, .int x3), (4, .int x4), (5, .int x5), (6, .int 0)]) dX8_wet_50 (by decide) [1, 2, 3, 4, 5, 6, 0] rfl ?_
    exact h11
theorem sg_X8_wet_52 {G : GW} {K : Option Value → Mem → Prop} {μ : Mem} {α : Mem} (hf : WF α) {x1 x2 x3 x4 x5 x6 : Int32}  (h : ((7 ≤ x6) → Ev2 G mX8_wet 5 32 [(0, .ref 82), (1, .int x1), (2, .int x2), (3, .int x3), (4, .int x4), (5, .int (x5 + 1))] [] μ K) ∧ ((¬ (7 ≤ x6)) → ((x5 = x6) → Ev2 G mX8_wet 5 52 [(0, .ref 82), (1, .int x1), (2, .int x2), (3, .int x3), (4, .int x4), (5, .int x5), (6, .int (x6 + 1))] [] μ K) ∧ ((¬ (x5 = x6)) → ((∃ w a, chP w a μ) ∧ inB x6 0 6 = true) ∧ ∀ μ9 : Mem, (wyR μ (backL (get4 101 μ) 7 x6.toNatClampNeg) μ9) → (wyP μ9) ∧ ((¬ (wsN μ9 (μ9 82 38).toNatClampNeg) = x1) → Ev2 G mX8_wet 5 52 [(0, .ref 82), (1, .int x1), (2, .int x2), (3, .int x3), (4, .int x4), (5, .int x5), (6, .int (x6 + 1))] [] μ9 K) ∧ (((wsN μ9 (μ9 82 38).toNatClampNeg) = x1) → ((¬ x3 = 0) → Ev2 G mX8_wet 5 52 [(0, .ref 82), (1, .int x1), (2, .int x2), (3, .int (x3 + 1)), (4, .int x4), (5, .int x5), (6, .int (x6 + 1))] [] μ9 K) ∧ ((x3 = 0) → Ev2 G mX8_wet 5 52 [(0, .ref 82), (1, .int x1), (2, .int x2), (3, .int (x3 + 1)), (4, .int ((10 * x5) + x6)), (5, .int x5), (6, .int (x6 + 1))] [] μ9 K))))) : Ev2 G mX8_wet 5 52 [(0, .ref 82), (1, .int x1), (2, .int x2), (3, .int x3), (4, .int x4), (5, .int x5), (6, .int x6)] [] μ K := by
  refine ev_iload dX8_wet_52 6 rfl ?_
  refine ev_bipush (v := 7) dX8_wet_54 rfl ?_
  refine ev_icmp_ge (tgt := 108) dX8_wet_56 rfl (fun c1 => ?_) (fun c1 => ?_)
  · have h2 := h.1 c1
    refine ev_iinc (v := (x5 + 1)) (lv' := [(0, .ref 82), (1, .int x1), (2, .int x2), (3, .int x3), (4, .int x4), (5, .int (x5 + 1)), (6, .int x6)]) dX8_wet_108 5 rfl rfl (by decide) [1, 2, 3, 4, 5, 0, 6] rfl ?_
    refine ev_goto (tgt := 32) dX8_wet_111 rfl ?_
    refine EvW.less [0, 1, 2, 3, 4, 5] (lv' := [(0, .ref 82), (1, .int x1), (2, .int x2), (3, .int x3), (4, .int x4), (5, .int (x5 + 1))]) rfl ?_
    exact h2
  · have h3 := h.2 c1
    refine ev_iload dX8_wet_59 5 rfl ?_
    refine ev_iload dX8_wet_61 6 rfl ?_
    refine ev_icmp_eq (tgt := 102) dX8_wet_63 rfl (fun c4 => ?_) (fun c4 => ?_)
    · have h5 := h3.1 c4
      refine ev_iinc (v := (x6 + 1)) (lv' := [(0, .ref 82), (1, .int x1), (2, .int x2), (3, .int x3), (4, .int x4), (5, .int x5), (6, .int (x6 + 1))]) dX8_wet_102 6 rfl rfl (by decide) [1, 2, 3, 4, 5, 6, 0] rfl ?_
      refine ev_goto (tgt := 52) dX8_wet_105 rfl ?_
      exact h5
    · have h6 := h3.2 c4
      refine ev_aload_n dX8_wet_66 0 rfl (by decide) ?_
      refine ev_iload dX8_wet_67 6 rfl ?_
      have p7 := h6.1
      have h8 := h6.2
      refine e2_callVrv (Rl := fun μ9 => wyR μ (backL (get4 101 μ) 7 x6.toNatClampNeg) μ9) (a := 82) (as := [.int x6]) (st := []) ok_X8_wayTo vi_X8_wayTo ml_8_266 hcl_8 kd_82 dX8_wet_69 rfl rfl (Nat.le_of_ble_eq_true rfl) (Nat.le_of_ble_eq_true rfl) (by decide) (ct_X8_wayTo (x6) μ p7) (fun μ9 r10 => ?_)
      have h11 := h8 μ9 r10
      refine ev_aload_n dX8_wet_72 0 rfl (by decide) ?_
      have p12 := h11.1
      have h13 := h11.2
      refine e2_callV (w := .int (wsN μ9 (μ9 82 38).toNatClampNeg)) (μ1 := μ9) (a := 82) (as := []) (st := []) ok_X8_waySet vi_X8_waySet ml_8_269 hcl_8 kd_82 dX8_wet_73 rfl rfl (Nat.le_of_ble_eq_true rfl) (Nat.le_of_ble_eq_true rfl) (by decide) (ct_X8_waySet μ9 p12) ?_
      refine ev_iload_n dX8_wet_76 1 rfl ?_
      refine ev_icmp_ne (tgt := 102) dX8_wet_77 rfl (fun c14 => ?_) (fun c14 => ?_)
      · have h15 := h13.1 c14
        refine ev_iinc (v := (x6 + 1)) (lv' := [(0, .ref 82), (1, .int x1), (2, .int x2), (3, .int x3), (4, .int x4), (5, .int x5), (6, .int (x6 + 1))]) dX8_wet_102 6 rfl rfl (by decide) [1, 2, 3, 4, 5, 6, 0] rfl ?_
        refine ev_goto (tgt := 52) dX8_wet_105 rfl ?_
        exact h15
      · have h16 := h13.2 c14
        refine ev_iload_n dX8_wet_80 3 rfl ?_
        refine ev_if_ne (tgt := 95) dX8_wet_81 rfl (fun c17 => ?_) (fun c17 => ?_)
        · have h18 := h16.1 c17
          refine ev_iload dX8_wet_95 4 rfl ?_
          refine ev_istore (lv' := [(0, .ref 82), (1, .int x1), (2, .int x2), (3, .int x3), (4, .int x4), (5, .int x5), (6, .int x6)]) dX8_wet_97 (by decide) [1, 2, 3, 4, 0, 5, 6] rfl ?_
          refine ev_iinc (v := (x3 + 1)) (lv' := [(0, .ref 82), (1, .int x1), (2, .int x2), (3, .int (x3 + 1)), (4, .int x4), (5, .int x5), (6, .int x6)]) dX8_wet_99 3 rfl rfl (by decide) [1, 2, 3, 0, 4, 5, 6] rfl ?_
          refine ev_iinc (v := (x6 + 1)) (lv' := [(0, .ref 82), (1, .int x1), (2, .int x2), (3, .int (x3 + 1)), (4, .int x4), (5, .int x5), (6, .int (x6 + 1))]) dX8_wet_102 6 rfl rfl (by decide) [1, 2, 3, 4, 5, 6, 0] rfl ?_
          refine ev_goto (tgt := 52) dX8_wet_105 rfl ?_
          exact h18
        · have h19 := h16.2 c17
          refine ev_bipush (v := 10) dX8_wet_84 rfl ?_
          refine ev_iload dX8_wet_86 5 rfl ?_
          refine ev_imul dX8_wet_88 ?_
          refine ev_iload dX8_wet_89 6 rfl ?_
          refine ev_iadd dX8_wet_91 ?_
          refine ev_goto (tgt := 97) dX8_wet_92 rfl ?_
          refine ev_istore (lv' := [(0, .ref 82), (1, .int x1), (2, .int x2), (3, .int x3), (4, .int ((10 * x5) + x6)), (5, .int x5), (6, .int x6)]) dX8_wet_97 (by decide) [1, 2, 3, 4, 0, 5, 6] rfl ?_
          refine ev_iinc (v := (x3 + 1)) (lv' := [(0, .ref 82), (1, .int x1), (2, .int x2), (3, .int (x3 + 1)), (4, .int ((10 * x5) + x6)), (5, .int x5), (6, .int x6)]) dX8_wet_99 3 rfl rfl (by decide) [1, 2, 3, 0, 4, 5, 6] rfl ?_
          refine ev_iinc (v := (x6 + 1)) (lv' := [(0, .ref 82), (1, .int x1), (2, .int x2), (3, .int (x3 + 1)), (4, .int ((10 * x5) + x6)), (5, .int x5), (6, .int (x6 + 1))]) dX8_wet_102 6 rfl rfl (by decide) [1, 2, 3, 4, 5, 6, 0] rfl ?_
          refine ev_goto (tgt := 52) dX8_wet_105 rfl ?_
          exact h19
def wetP (s : Int32 × Int32) (n : Nat) : Prop := ∃ k, k ≤ n ∧ s.1 = nI k ∧ (k = 0 ↔ s.2 = -1)
theorem wetP.step {s : Int32 × Int32} {n p q : Nat} {set w : Int32} (h : wetP s n) (hp : p < 7) (hq : q < 7) (hn : n < 100) : wetP (stepW set p s w q) (n + 1) := by
  obtain ⟨k, hk, e1, e2⟩ := h
  unfold stepW
  split
  · exact ⟨k, by omega, e1, e2⟩
  · split
    · refine ⟨k + 1, by omega, by rw [e1, nI_1], ?_⟩
      refine ⟨fun c => absurd c (by omega), fun c => ?_⟩
      have c : (if s.2 = -1 then 10 * nI p + nI q else s.2) = -1 := c
      split at c
      · rw [show (10 : Int32) = nI 10 from rfl, pk_mul, nI_add] at c
        exact absurd c (nI_m (by omega))
      · rename_i d
        exact absurd c d
    · exact ⟨k, by omega, e1, e2⟩
theorem lp_X8_wetI {G : GW} {α μ0 : Mem} (hf : WF α) {x1 x2 : Int32} {p : Nat} (hp : p < 7) {w : Value} {s : Int32 × Int32} (hnext : ∀ μ, VM α μ → keepX μ0 μ → wetP (wetI α x1 p s 7) (7 * p + 7) → Ev2 G mX8_wet 5 32 [(0, .ref 82), (1, .int x1), (2, .int x2), (3, .int (wetI α x1 p s 7).1), (4, .int (wetI α x1 p s 7).2), (5, .int (nI (p + 1)))] [] μ (fun v μ' => v = some w ∧ VM α μ' ∧ keepX μ0 μ')) : ∀ j q (μ : Mem), q + j = 7 → VM α μ → keepX μ0 μ → eq7 (get4 101 μ) (refS α (allA α) p) → wetP (wetI α x1 p s q) (7 * p + q) → Ev2 G mX8_wet 5 52 [(0, .ref 82), (1, .int x1), (2, .int x2), (3, .int (wetI α x1 p s q).1), (4, .int (wetI α x1 p s q).2), (5, .int (nI p)), (6, .int (nI q))] [] μ (fun v μ' => v = some w ∧ VM α μ' ∧ keepX μ0 μ') := by
  have hs := allA_ok hf.1
  intro j
  induction j with
  | zero =>
    intro q μ hq h hm he hw
    obtain rfl : q = 7 := hq
    have hh := hnext μ h hm hw
    rw [← nI_1] at hh
    exact sg_X8_wet_52 hf ⟨fun _ => hh, fun c => absurd (nI_le (a := 7) (Nat.le_refl _) (by omega)) c⟩
  | succ j ih =>
    intro q μ hq h hm he hw
    have hst := wetI_succ α x1 p s q
    have hw2 := hw.step (set := x1) (w := wayHs (runA α (allA α) (-1) p) 0 (backL (runA α (allA α) (-1) p) 7 q)) hp (show q < 7 by omega) (by omega)
    rw [← hst] at hw2
    have hh := fun μ h hm he => ih (q + 1) μ (by omega) h hm he hw2
    rw [hst, way_all hf hs hp (show q < 7 by omega), ← nI_1] at hh
    refine sg_X8_wet_52 hf ⟨fun c => absurd c (nI_ge (b := 7) (by omega) (by omega)), fun _ => ⟨fun c => ?_, fun c => ⟨⟨⟨_, _, ref_ch hf hs hp he⟩, inB_7 (by omega)⟩, fun ν hν => ?_⟩⟩⟩
    · unfold stepW at hh
      rw [if_pos ((nI_eq (by omega) (by omega)).mp c)] at hh
      exact hh μ h hm he
    · rw [ix_nI (by omega)] at hν
      obtain ⟨hqq, hsc⟩ := ref_way hf hs hp (show q < 7 by omega) he hν
      obtain ⟨h2, k2⟩ := h.scr hf hsc
      have he2 : eq7 (get4 101 ν) (refS α (allA α) p) := by
        intro r hr k hk
        have : get4 101 ν r k = get4 101 μ r k := by
          show ν (101 + r) k = μ (101 + r) k
          rw [hν.1 (101 + r) (by omega) (by omega)]
        rw [this]
        exact he r hr k hk
      have hh := hh ν h2 (hm.tr k2) he2
      unfold stepW at hh
      rw [if_neg (fun z => c (by rw [z]))] at hh
      refine ⟨hqq.P hf hs hp (by omega), ?_⟩
      rw [hqq.set hf hs hp (by omega)]
      obtain ⟨k, hk, e1, e2⟩ := hw
      refine ⟨fun d => ?_, fun d => ⟨fun e => ?_, fun e => ?_⟩⟩
      · rw [if_neg d] at hh
        exact hh
      · rw [if_pos d, if_neg (fun z => e (by rw [e1, e2.mpr z]; rfl))] at hh
        exact hh
      · have k0 : k = 0 := (nI_eq (b := 0) (by omega) (by omega)).mp (e1.symm.trans e)
        rw [if_pos d, if_pos (e2.mp k0)] at hh
        exact hh
theorem lp_X8_wet {G : GW} {α μ0 : Mem} (hf : WF α) {x1 x2 : Int32} : ∀ j p (μ : Mem), p + j = 7 → VM α μ → keepX μ0 μ → wetP (wetA α x1 p) (7 * p) → Ev2 G mX8_wet 5 32 [(0, .ref 82), (1, .int x1), (2, .int x2), (3, .int (wetA α x1 p).1), (4, .int (wetA α x1 p).2), (5, .int (nI p))] [] μ (fun v μ' => v = some (.int (sel2 x2 (wetA α x1 7).1 (wetA α x1 7).2)) ∧ VM α μ' ∧ keepX μ0 μ') := by
  intro j
  induction j with
  | zero =>
    intro p μ hp h hm hw
    obtain rfl : p = 7 := hp
    refine sg_X8_wet_32 hf ⟨fun _ => ⟨fun c => ⟨?_, h, hm⟩, fun c => ⟨?_, h, hm⟩⟩, fun c => absurd (nI_le (a := 7) (Nat.le_refl _) (by omega)) c⟩
    · unfold sel2; rw [if_neg c]
    · unfold sel2; rw [if_pos c]
  | succ j ih =>
    intro p μ hp h hm hw
    refine sg_X8_wet_32 hf ⟨fun c => absurd c (nI_ge (b := 7) (by omega) (by omega)), fun _ => ?_⟩
    rw [h.all]
    refine ⟨⟨h, inB_7 (by omega), allA_ok hf.1⟩, fun ν hν => ?_⟩
    rw [ix_nI (by omega)] at hν
    obtain ⟨h1, k1⟩ := h.o hf hν.1
    have hn := fun μ h hm hw => ih (p + 1) μ (by omega) h hm hw
    rw [wetA_succ, show 7 * (p + 1) = 7 * p + 7 by omega] at hn
    have hh := lp_X8_wetI (G := G) (μ0 := μ0) hf (x1 := x1) (x2 := x2) (p := p) (s := wetA α x1 p) (by omega) hn 7 0 ν rfl h1 (hm.tr k1) hν.2 (by rw [wetI_0]; exact hw)
    rw [wetI_0] at hh
    exact hh
theorem pb_X8_wet {G : GW} {α μ : Mem} (hf : WF α) (h : VM α μ) (x1 x2 : Int32) : pubM G mX8_wet 5 [(0, .ref 82), (1, .int x1), (2, .int x2)] α μ (.int (sp_wet α x1 x2)) α := by
  refine sg_X8_wet_0 hf ?_
  rw [h.all]
  unfold sp_wet
  refine ⟨fun c => ?_, fun c => ⟨fun d => ?_, fun d => ?_⟩⟩
  · rw [if_neg (by rw [c]; decide)]
    exact ⟨rfl, h, keepX.rf μ⟩
  · rw [if_pos c, if_pos d]
    have hh := lp_X8_wet (G := G) hf (x1 := x1) (x2 := x2) 7 0 μ rfl h (keepX.rf μ) (by rw [wetA_0]; exact ⟨0, Nat.le_refl _, rfl, fun _ => rfl, fun _ => rfl⟩)
    rw [wetA_0] at hh
    exact hh
  · rw [if_pos c, if_neg (by rw [d]; decide)]
    exact ⟨rfl, h, keepX.rf μ⟩
/-! by lot -/
theorem sg_X8_drawnBy_0 {G : GW} {K : Option Value → Mem → Prop} {μ : Mem} {α : Mem} (hf : WF α) {x1 : Int32}  (h : Ev2 G mX8_drawnBy 3 11 [(0, .ref 82), (2, .long ((Int32.toInt64 x1) + (1 : Int64))), (4, .int 0), (5, .int 0)] [] μ K) : Ev2 G mX8_drawnBy 3 0 [(0, .ref 82), (1, .int x1)] [] μ K := by
  refine ev_iload_n dX8_drawnBy_0 1 rfl ?_
  refine ev_i2l dX8_drawnBy_1 ?_
  refine ev_lconst (v := (1 : Int64)) dX8_drawnBy_2 rfl ?_
  refine ev_ladd dX8_drawnBy_3 ?_
  refine ev_lstore_n (lv' := [(0, .ref 82), (1, .int x1), (2, .long ((Int32.toInt64 x1) + (1 : Int64)))]) dX8_drawnBy_4 (by decide) [1, 2, 0] rfl ?_
  refine ev_iconst (v := 0) dX8_drawnBy_5 rfl ?_
  refine ev_istore (lv' := [(0, .ref 82), (1, .int x1), (2, .long ((Int32.toInt64 x1) + (1 : Int64))), (4, .int 0)]) dX8_drawnBy_6 (by decide) [1, 2, 3, 0] rfl ?_
  refine ev_iconst (v := 0) dX8_drawnBy_8 rfl ?_
  refine ev_istore (lv' := [(0, .ref 82), (1, .int x1), (2, .long ((Int32.toInt64 x1) + (1 : Int64))), (4, .int 0), (5, .int 0)]) dX8_drawnBy_9 (by decide) [1, 2, 3, 4, 0] rfl ?_
  refine EvW.less [0, 2, 3, 4] (lv' := [(0, .ref 82), (2, .long ((Int32.toInt64 x1) + (1 : Int64))), (4, .int 0), (5, .int 0)]) rfl ?_
  exact h
theorem sg_X8_drawnBy_11 {G : GW} {K : Option Value → Mem → Prop} {μ : Mem} {α : Mem} (hf : WF α) {x2 : Int64} {x4 x5 : Int32}  (h : (((μ 82 4) ≤ x5) → K (some (.int x4)) μ) ∧ ((¬ ((μ 82 4) ≤ x5)) → (VM α μ ∧ inB (2 : Int32) 0 2 = true ∧ inB x5 0 (α 0 0 - 1) = true) ∧ ∀ (z6 : Int32) (μ7 : Mem), (z6 = saidA α (2 : Int32).toNatClampNeg x5.toNatClampNeg ∧ onlyM 99 100 μ μ7) → (((lg_cmp (((x2 * (48271 : Int64)) - (x2 * (48271 : Int64)) / (2147483647 : Int64) * (2147483647 : Int64)) - ((x2 * (48271 : Int64)) - (x2 * (48271 : Int64)) / (2147483647 : Int64) * (2147483647 : Int64)) / (100 : Int64) * (100 : Int64)) (Int32.toInt64 z6)) < 0) → Ev2 G mX8_drawnBy 3 11 [(0, .ref 82), (2, .long ((x2 * (48271 : Int64)) - (x2 * (48271 : Int64)) / (2147483647 : Int64) * (2147483647 : Int64))), (4, .int (x4 ||| 0)), (5, .int (x5 + 1))] [] μ7 K) ∧ ((¬ ((lg_cmp (((x2 * (48271 : Int64)) - (x2 * (48271 : Int64)) / (2147483647 : Int64) * (2147483647 : Int64)) - ((x2 * (48271 : Int64)) - (x2 * (48271 : Int64)) / (2147483647 : Int64) * (2147483647 : Int64)) / (100 : Int64) * (100 : Int64)) (Int32.toInt64 z6)) < 0)) → ∀ y13 : Int32, y13 = (x4 ||| ((1 : Int32) <<< (x5 &&& 31))) → Ev2 G mX8_drawnBy 3 11 [(0, .ref 82), (2, .long ((x2 * (48271 : Int64)) - (x2 * (48271 : Int64)) / (2147483647 : Int64) * (2147483647 : Int64))), (4, .int y13), (5, .int (x5 + 1))] [] μ7 K))) : Ev2 G mX8_drawnBy 3 11 [(0, .ref 82), (2, .long x2), (4, .int x4), (5, .int x5)] [] μ K := by
  refine ev_iload dX8_drawnBy_11 3 rfl ?_
  refine ev_aload_n dX8_drawnBy_13 0 rfl (by decide) ?_
  refine ev_getI' (v := (μ 82 4)) fl_8_7 rfl kd_82 rfl dX8_drawnBy_14 ?_
  refine ev_icmp_ge (tgt := 66) dX8_drawnBy_17 rfl (fun c1 => ?_) (fun c1 => ?_)
  · have h2 := h.1 c1
    refine ev_iload dX8_drawnBy_66 2 rfl ?_
    exact ev_ireturn dX8_drawnBy_68 rfl True.intro rfl rfl ⟨rfl, h2⟩
  · have h3 := h.2 c1
    refine ev_lload_n dX8_drawnBy_20 1 rfl ?_
    refine ev_ldc2 dX8_drawnBy_21 co_8_298 ?_
    refine ev_lmul dX8_drawnBy_24 ?_
    refine ev_ldc2 dX8_drawnBy_25 co_8_300 ?_
    refine ev_lrem dX8_drawnBy_28 (by decide) ?_
    refine ev_lstore_n (lv' := [(0, .ref 82), (2, .long ((x2 * (48271 : Int64)) - (x2 * (48271 : Int64)) / (2147483647 : Int64) * (2147483647 : Int64))), (4, .int x4), (5, .int x5)]) dX8_drawnBy_29 (by decide) [1, 0, 2, 3] rfl ?_
    refine ev_iload dX8_drawnBy_30 2 rfl ?_
    refine ev_lload_n dX8_drawnBy_32 1 rfl ?_
    refine ev_ldc2 dX8_drawnBy_33 co_8_286 ?_
    refine ev_lrem dX8_drawnBy_36 (by decide) ?_
    refine ev_aload_n dX8_drawnBy_37 0 rfl (by decide) ?_
    refine ev_iconst (v := 2) dX8_drawnBy_38 rfl ?_
    refine ev_iload dX8_drawnBy_39 3 rfl ?_
    have p4 := h3.1
    have h5 := h3.2
    refine e2_callVr (Rl := fun z6 μ7 => z6 = saidA α (2 : Int32).toNatClampNeg x5.toNatClampNeg ∧ onlyM 99 100 μ μ7) (a := 82) (as := [.int 2, .int x5]) (st := [.long (((x2 * (48271 : Int64)) - (x2 * (48271 : Int64)) / (2147483647 : Int64) * (2147483647 : Int64)) - ((x2 * (48271 : Int64)) - (x2 * (48271 : Int64)) / (2147483647 : Int64) * (2147483647 : Int64)) / (100 : Int64) * (100 : Int64)), .int x4]) ok_X8_worthOf vi_X8_worthOf ml_8_60 hcl_8 kd_82 dX8_drawnBy_41 rfl rfl (Nat.le_of_ble_eq_true rfl) (Nat.le_of_ble_eq_true rfl) (by decide) (ct_X8_worthOf hf (2) (x5) μ p4) (fun z6 μ7 r8 => ?_)
    have h9 := h5 z6 μ7 r8
    refine ev_i2l dX8_drawnBy_44 ?_
    refine ev_lcmp dX8_drawnBy_45 ?_
    refine ev_if_lt (tgt := 56) dX8_drawnBy_46 rfl (fun c10 => ?_) (fun c10 => ?_)
    · have h11 := h9.1 c10
      refine ev_iconst (v := 0) dX8_drawnBy_56 rfl ?_
      refine ev_ior dX8_drawnBy_57 ?_
      refine ev_istore (lv' := [(0, .ref 82), (2, .long ((x2 * (48271 : Int64)) - (x2 * (48271 : Int64)) / (2147483647 : Int64) * (2147483647 : Int64))), (4, .int (x4 ||| 0)), (5, .int x5)]) dX8_drawnBy_58 (by decide) [1, 2, 0, 3] rfl ?_
      refine ev_iinc (v := (x5 + 1)) (lv' := [(0, .ref 82), (2, .long ((x2 * (48271 : Int64)) - (x2 * (48271 : Int64)) / (2147483647 : Int64) * (2147483647 : Int64))), (4, .int (x4 ||| 0)), (5, .int (x5 + 1))]) dX8_drawnBy_60 3 rfl rfl (by decide) [1, 2, 3, 0] rfl ?_
      refine ev_goto (tgt := 11) dX8_drawnBy_63 rfl ?_
      exact h11
    · have h12 := h9.2 c10
      refine ev_iconst (v := 1) dX8_drawnBy_49 rfl ?_
      refine ev_iload dX8_drawnBy_50 3 rfl ?_
      refine ev_ishl dX8_drawnBy_52 ?_
      refine ev_goto (tgt := 57) dX8_drawnBy_53 rfl ?_
      refine ev_ior dX8_drawnBy_57 ?_
      refine ev_top (fun y13 ey13 => ?_)
      have h14 := h12 y13 ey13
      refine ev_istore (lv' := [(0, .ref 82), (2, .long ((x2 * (48271 : Int64)) - (x2 * (48271 : Int64)) / (2147483647 : Int64) * (2147483647 : Int64))), (4, .int y13), (5, .int x5)]) dX8_drawnBy_58 (by decide) [1, 2, 0, 3] rfl ?_
      refine ev_iinc (v := (x5 + 1)) (lv' := [(0, .ref 82), (2, .long ((x2 * (48271 : Int64)) - (x2 * (48271 : Int64)) / (2147483647 : Int64) * (2147483647 : Int64))), (4, .int y13), (5, .int (x5 + 1))]) dX8_drawnBy_60 3 rfl rfl (by decide) [1, 2, 3, 0] rfl ?_
      refine ev_goto (tgt := 11) dX8_drawnBy_63 rfl ?_
      exact h14
theorem lp_X8_drawnBy {G : GW} {α μ : Mem} (hf : WF α) {seed : Int32} : ∀ j i (ν : Mem), i + j = aN α → VM α ν → onlyM 99 100 μ ν → Ev2 G mX8_drawnBy 3 11 [(0, .ref 82), (2, .long (lotV seed i)), (4, .int (drwV (fun x => saidA α 2 x) seed i)), (5, .int (nI i))] [] ν (fun v μ' => ∃ x, v = some (.int x) ∧ (x = drwV (fun x => saidA α 2 x) seed (aN α) ∧ onlyM 99 100 μ μ')) := by
  have hn7 := hf.1.1.2
  intro j
  induction j with
  | zero =>
    intro i ν hi h ho
    obtain rfl : i = aN α := hi
    refine sg_X8_drawnBy_11 hf ⟨fun _ => ⟨_, rfl, rfl, ho⟩, fun c => ?_⟩
    rw [h.n hf] at c
    exact absurd (Int32.le_refl _) c
  | succ j ih =>
    intro i ν hi h ho
    have hh := fun ν h ho => ih (i + 1) ν (by omega) h ho
    have ep : drwV (fun x => saidA α 2 x) seed (i + 1) = if lg_cmp (lrem (lotV seed (i + 1)) 100) (Int32.toInt64 (saidA α 2 i)) < 0 then drwV (fun x => saidA α 2 x) seed i else drwV (fun x => saidA α 2 x) seed i ||| (1 <<< (nI i &&& 31)) := rfl
    have el : lotV seed (i + 1) = lrem (lotV seed i * 48271) 2147483647 := rfl
    rw [ep, el, ← nI_1] at hh
    refine sg_X8_drawnBy_11 hf ⟨fun c => ?_, fun _ => ⟨⟨h, by decide, inB_h hf (by omega)⟩, fun z ξ hz => ?_⟩⟩
    · rw [h.n hf] at c
      exact absurd c (nI_ge (by omega) (by omega))
    · obtain ⟨ez, ho2⟩ := hz
      have ez : z = saidA α 2 (nI i).toNatClampNeg := ez
      rw [ix_nI (by omega)] at ez
      obtain ⟨h1, -⟩ := h.W hf ho2
      have hh := hh ξ h1 (ho.tr ho2)
      rw [← ez] at hh
      refine ⟨fun c => ?_, fun c y hy => ?_⟩
      · rw [if_pos (show lg_cmp (lrem (lrem (lotV seed i * 48271) 2147483647) 100) (Int32.toInt64 z) < 0 from c)] at hh
        rw [Int32.or_zero]
        exact hh
      · rw [if_neg (show ¬ lg_cmp (lrem (lrem (lotV seed i * 48271) 2147483647) 100) (Int32.toInt64 z) < 0 from c)] at hh
        rw [hy]
        exact hh
theorem ct_X8_drawnBy {G : GW} {α : Mem} (hf : WF α) (x1 : Int32) (μ : Mem) (hp : VM α μ) : Ev2 G mX8_drawnBy 3 0 [(0, .ref 82), (1, .int x1)] [] μ (fun v μ' => ∃ x, v = some (.int x) ∧ (x = drwV (fun x => saidA α 2 x) x1 (aN α) ∧ onlyM 99 100 μ μ')) := sg_X8_drawnBy_0 hf (lp_X8_drawnBy hf (aN α) 0 μ (Nat.zero_add _) hp (onlyM.rf _ _ _))
theorem sg_X8_drawn_0 {G : GW} {K : Option Value → Mem → Prop} {μ : Mem} {α : Mem} (hf : WF α) {x1 : Int32}  (h : (((inB x1 (0 : Int32) (99999 : Int32)) = false) → K (some (.int (-2))) μ) ∧ (((inB x1 (0 : Int32) (99999 : Int32)) = true) → (VM α μ) ∧ ∀ (z6 : Int32) (μ7 : Mem), (z6 = drwV (fun x => saidA α 2 x) x1 (aN α) ∧ onlyM 99 100 μ μ7) → K (some (.int z6)) μ7)) : Ev2 G mX8_drawn 4 0 [(0, .ref 82), (1, .int x1)] [] μ K := by
  refine ev_iload_n dX8_drawn_0 1 rfl ?_
  refine ev_iconst (v := 0) dX8_drawn_1 rfl ?_
  refine ev_ldcw dX8_drawn_2 co_8_302 ?_
  refine e2_callS (w := .int (bi (inB x1 (0 : Int32) (99999 : Int32)))) (μ1 := μ) (as := [.int x1, .int 0, .int 99999]) (st := []) ok_X8_isIn sv_X8_isIn ml_8_3 dX8_drawn_5 rfl rfl (Nat.le_of_ble_eq_true rfl) (Nat.le_of_ble_eq_true rfl) (by decide) (ct_X8_isIn (x1) (0) (99999) μ) ?_
  refine ev_ifeq_bi (tgt := 19) dX8_drawn_8 rfl (fun c1 => ?_) (fun c1 => ?_)
  · have h2 := h.1 c1
    refine ev_bipush (v := (-2)) dX8_drawn_19 rfl ?_
    exact ev_ireturn dX8_drawn_21 rfl True.intro rfl rfl ⟨rfl, h2⟩
  · have h3 := h.2 c1
    refine ev_aload_n dX8_drawn_11 0 rfl (by decide) ?_
    refine ev_iload_n dX8_drawn_12 1 rfl ?_
    have p4 := h3.1
    have h5 := h3.2
    refine e2_callVr (Rl := fun z6 μ7 => z6 = drwV (fun x => saidA α 2 x) x1 (aN α) ∧ onlyM 99 100 μ μ7) (a := 82) (as := [.int x1]) (st := []) ok_X8_drawnBy vi_X8_drawnBy ml_8_303 hcl_8 kd_82 dX8_drawn_13 rfl rfl (Nat.le_of_ble_eq_true rfl) (Nat.le_of_ble_eq_true rfl) (by decide) (ct_X8_drawnBy hf (x1) μ p4) (fun z6 μ7 r8 => ?_)
    have h9 := h5 z6 μ7 r8
    refine ev_goto (tgt := 21) dX8_drawn_16 rfl ?_
    exact ev_ireturn dX8_drawn_21 rfl True.intro rfl rfl ⟨rfl, h9⟩
theorem pb_X8_drawn {G : GW} {α μ : Mem} (hf : WF α) (h : VM α μ) (x1 : Int32) : pubM G mX8_drawn 4 [(0, .ref 82), (1, .int x1)] α μ (.int (sp_drawn α x1)) α := by
  unfold sp_drawn
  refine sg_X8_drawn_0 hf ⟨fun c => ?_, fun c => ⟨h, fun z ν hz => ?_⟩⟩
  · rw [if_neg (by rw [c]; decide)]
    exact ⟨rfl, h, keepX.rf μ⟩
  · rw [if_pos c, hz.1]
    exact ⟨rfl, h.W hf hz.2⟩
/-! the mean -/
def mLg (n : Nat) : Int64 := Int32.toInt64 (nI n)
theorem mLg_i {n : Nat} (h : n < 2 ^ 31) : (mLg n).toInt = n := by
  unfold mLg
  rw [Int32.toInt_toInt64, nI_toInt h]
theorem mLg_of {x : Int64} {n : Nat} (hn : n < 2 ^ 31) (h : x.toInt = n) : x = mLg n := Int64.toInt_inj.mp (h.trans (mLg_i hn).symm)
theorem l_bmod {n : Int} (h : -9223372036854775808 ≤ n ∧ n < 9223372036854775808) : n.bmod (2 ^ 64) = n := Int.bmod_eq_of_le (by omega) (by omega)
theorem mLg_add {a b : Nat} (h : a + b < 2 ^ 31) : mLg a + mLg b = mLg (a + b) := by
  refine mLg_of h ?_
  rw [Int64.toInt_add, mLg_i (by omega), mLg_i (by omega), l_bmod (by omega)]
  omega
theorem mLg_div {a b : Nat} (ha : a < 2 ^ 31) (hb : b < 2 ^ 31) : mLg a / mLg b = mLg (a / b) := by
  have hd : a / b ≤ a := Nat.div_le_self a b
  refine mLg_of (by omega) ?_
  rw [Int64.toInt_div, mLg_i ha, mLg_i hb, ← Int.ofNat_tdiv]
  generalize a / b = q at hd ⊢
  exact l_bmod (by omega)
theorem mLg_mod {a b : Nat} (ha : a < 2 ^ 31) (hb : b < 2 ^ 31) : mLg a - mLg a / mLg b * mLg b = mLg (a % b) := by
  have hd : a / b ≤ a := Nat.div_le_self a b
  have hm : a / b * b ≤ a := Nat.div_mul_le_self a b
  have e : a % b = a - a / b * b := by
    have := Nat.div_add_mod a b
    rw [Nat.mul_comm] at this
    omega
  rw [mLg_div ha hb]
  refine mLg_of (by rw [e]; omega) ?_
  have em : (mLg (a / b) * mLg b).toInt = ((a / b * b : Nat) : Int) := by
    rw [Int64.toInt_mul, mLg_i (by omega), mLg_i hb, ← Int.natCast_mul, l_bmod (by omega)]
  rw [Int64.toInt_sub, em, mLg_i ha, l_bmod (by omega), e]
  omega
theorem mLg_0 {b : Nat} (hb : b < 2 ^ 31) : mLg b = 0 ↔ b = 0 := by
  rw [← Int64.toInt_inj, mLg_i hb]
  have : (0 : Int64).toInt = 0 := by decide
  rw [this]
  omega
theorem lcmp_0 {x y : Int64} : lg_cmp x y = 0 ↔ x = y := by
  unfold lg_cmp
  split
  · rename_i c
    constructor
    · intro q; exact absurd q (by decide)
    · intro q
      rw [q] at c
      exact absurd c Int64.lt_irrefl
  · split
    · rename_i d
      exact ⟨fun _ => d, fun _ => rfl⟩
    · rename_i d
      exact ⟨fun q => absurd q (by decide), fun q => absurd q d⟩
def gcL (x y : Int64) : Int64 := mLg (Nat.gcd x.toInt.toNat y.toInt.toNat)
def gcP (x y : Int64) : Prop := ∃ a b, a < 2 ^ 30 ∧ b < 2 ^ 30 ∧ x = mLg a ∧ y = mLg b
theorem gcL_m {a b : Nat} (ha : a < 2 ^ 30) (hb : b < 2 ^ 30) : gcL (mLg a) (mLg b) = mLg (Nat.gcd a b) := by
  unfold gcL
  rw [mLg_i (by omega), mLg_i (by omega), Int.toNat_natCast, Int.toNat_natCast]
theorem sg_X8_divisor_0 {G : GW} {K : Option Value → Mem → Prop} {μ : Mem} {x0 x2 : Int64}  (h : Ev2 G mX8_divisor 1 6 [(4, .long x0), (6, .long x2)] [] μ K) : Ev2 G mX8_divisor 1 0 [(0, .long x0), (2, .long x2)] [] μ K := by
  refine ev_lload_n dX8_divisor_0 0 rfl ?_
  refine ev_lstore (lv' := [(0, .long x0), (2, .long x2), (4, .long x0)]) dX8_divisor_1 (by decide) [1, 2, 0] rfl ?_
  refine ev_lload_n dX8_divisor_3 1 rfl ?_
  refine ev_lstore (lv' := [(0, .long x0), (2, .long x2), (4, .long x0), (6, .long x2)]) dX8_divisor_4 (by decide) [1, 2, 3, 0] rfl ?_
  refine EvW.less [2, 3] (lv' := [(4, .long x0), (6, .long x2)]) rfl ?_
  exact h
theorem sg_X8_divisor_6 {G : GW} {K : Option Value → Mem → Prop} {μ : Mem} {x4 x6 : Int64}  (h : (((lg_cmp x6 (0 : Int64)) = 0) → K (some (.long x4)) μ) ∧ ((¬ ((lg_cmp x6 (0 : Int64)) = 0)) → (¬ x6 = 0) ∧ Ev2 G mX8_divisor 1 6 [(4, .long x6), (6, .long (x4 - x4 / x6 * x6))] [] μ K)) : Ev2 G mX8_divisor 1 6 [(4, .long x4), (6, .long x6)] [] μ K := by
  refine ev_lload dX8_divisor_6 1 rfl ?_
  refine ev_lconst (v := (0 : Int64)) dX8_divisor_8 rfl ?_
  refine ev_lcmp dX8_divisor_9 ?_
  refine ev_if_eq (tgt := 31) dX8_divisor_10 rfl (fun c1 => ?_) (fun c1 => ?_)
  · have h2 := h.1 c1
    refine ev_lload dX8_divisor_31 0 rfl ?_
    exact ev_lreturn dX8_divisor_33 rfl rfl rfl ⟨rfl, h2⟩
  · have h3 := h.2 c1
    refine ev_lload dX8_divisor_13 0 rfl ?_
    refine ev_lload dX8_divisor_15 1 rfl ?_
    have p4 := h3.1
    have h5 := h3.2
    refine ev_lrem dX8_divisor_17 p4 ?_
    refine ev_lstore (lv' := [(4, .long x4), (6, .long x6), (8, .long (x4 - x4 / x6 * x6))]) dX8_divisor_18 (by decide) [1, 2, 0] rfl ?_
    refine ev_lload dX8_divisor_20 1 rfl ?_
    refine ev_lstore (lv' := [(4, .long x6), (6, .long x6), (8, .long (x4 - x4 / x6 * x6))]) dX8_divisor_22 (by decide) [0, 1, 2] rfl ?_
    refine ev_lload dX8_divisor_24 2 rfl ?_
    refine ev_lstore (lv' := [(4, .long x6), (6, .long (x4 - x4 / x6 * x6)), (8, .long (x4 - x4 / x6 * x6))]) dX8_divisor_26 (by decide) [1, 0, 2] rfl ?_
    refine ev_goto (tgt := 6) dX8_divisor_28 rfl ?_
    refine EvW.less [0, 1] (lv' := [(4, .long x6), (6, .long (x4 - x4 / x6 * x6))]) rfl ?_
    exact h5
theorem lp_X8_divisor {G : GW} (μ : Mem) : ∀ b a : Nat, a < 2 ^ 30 → b < 2 ^ 30 → Ev2 G mX8_divisor 1 6 [(4, .long (mLg a)), (6, .long (mLg b))] [] μ (fun v μ' => v = some (.long (mLg (Nat.gcd a b))) ∧ μ' = μ) := by
  intro b
  induction b using Nat.strongRecOn with
  | _ b ih =>
    intro a ha hb
    refine sg_X8_divisor_6 ⟨fun c => ?_, fun c => ⟨fun q => c (lcmp_0.mpr q), ?_⟩⟩
    · obtain rfl := (mLg_0 (by omega)).mp (lcmp_0.mp c)
      rw [Nat.gcd_zero_right]
      exact ⟨rfl, rfl⟩
    · have hb0 : 0 < b := Nat.pos_of_ne_zero (fun q => c (lcmp_0.mpr ((mLg_0 (by omega)).mpr q)))
      have hm := Nat.mod_lt a hb0
      rw [mLg_mod (by omega) (by omega)]
      have := ih (a % b) hm b hb (by omega)
      rw [Nat.gcd_comm b, ← Nat.gcd_rec, Nat.gcd_comm] at this
      exact this
theorem ct_X8_divisor {G : GW} (x0 x2 : Int64) (μ : Mem) (hp : gcP x0 x2) : Ev2 G mX8_divisor 1 0 [(0, .long x0), (2, .long x2)] [] μ (fun v μ' => v = some (.long (gcL x0 x2)) ∧ μ' = μ) := by
  obtain ⟨a, b, ha, hb, rfl, rfl⟩ := hp
  rw [gcL_m ha hb]
  exact sg_X8_divisor_0 (lp_X8_divisor μ b a ha hb)
theorem rem_nI {a b : Nat} (ha : a < 2 ^ 30) (hb : b < 2 ^ 30) (h0 : 0 < b) : irem (nI a) (nI b) = nI (a % b) := by
  have hd : a / b ≤ a := Nat.div_le_self a b
  have hm : a / b * b ≤ a := Nat.div_mul_le_self a b
  have e : a % b = a - a / b * b := by
    have := Nat.div_add_mod a b
    rw [Nat.mul_comm] at this
    omega
  unfold irem
  rw [pk_div (by omega) h0 (by omega), pk_mul, pk_sub hm, e]
theorem gcF_nI : ∀ f a b : Nat, b ≤ f → 1 ≤ a → a < 2 ^ 30 → b < 2 ^ 30 → gcF f (nI a) (nI b) = nI (Nat.gcd a b) := by
  intro f
  induction f with
  | zero =>
    intro a b h h1 ha hb
    obtain rfl : b = 0 := by omega
    rw [Nat.gcd_zero_right]
    exact imax_one (by omega) h1
  | succ f ih =>
    intro a b h h1 ha hb
    show (if nI b = 0 then imax 1 (nI a) else gcF f (nI b) (irem (nI a) (nI b))) = _
    by_cases c : b = 0
    · subst c
      rw [if_pos (show nI 0 = 0 from rfl), Nat.gcd_zero_right]
      exact imax_one (by omega) h1
    · have hm := Nat.mod_lt a (Nat.pos_of_ne_zero c)
      have cz : ¬ nI b = 0 := fun q => c ((nI_eq (b := 0) (by omega) (by omega)).mp q)
      rw [if_neg cz, rem_nI ha hb (by omega), ih b (a % b) (by omega) (by omega) hb (by omega), Nat.gcd_comm b, ← Nat.gcd_rec, Nat.gcd_comm]
theorem gcF_64 {N S : Nat} (h1 : 1 ≤ N) (h2 : N ≤ 30) (hS : S < 2 ^ 30) : gcF 64 (nI N) (nI S) = nI (Nat.gcd N S) := by
  show (if nI S = 0 then imax 1 (nI N) else gcF 63 (nI S) (irem (nI N) (nI S))) = _
  by_cases c : S = 0
  · subst c
    rw [if_pos (show nI 0 = 0 from rfl), Nat.gcd_zero_right]
    exact imax_one (by omega) h1
  · have hm := Nat.mod_lt N (Nat.pos_of_ne_zero c)
    have hle := Nat.mod_le N S
    have cz : ¬ nI S = 0 := fun q => c ((nI_eq (b := 0) (by omega) (by omega)).mp q)
    rw [if_neg cz, rem_nI (by omega) hS (by omega), gcF_nI 63 S (N % S) (by omega) (by omega) hS (by omega), Nat.gcd_comm S, ← Nat.gcd_rec, Nat.gcd_comm]
theorem mean_range {α : Mem} (hf : WF α) {a b : Nat} (ha : a < 7) (hb : b < 7) {seed : Int32} : ∀ i, i ≤ 30 → ∃ S, S ≤ 999 * i ∧ meanA α a b seed i = nI S := by
  intro i
  induction i with
  | zero =>
    intro _
    refine ⟨0, by omega, ?_⟩
    rw [meanA]
    rfl
  | succ i ih =>
    intro hi
    obtain ⟨S, hS, e⟩ := ih (by omega)
    obtain ⟨t, ht, et⟩ := soon_999 hf (drwV_ok (d := fun x => saidA α 2 x) (s := seed + nI i) _ hf.1.1.2) ha hb
    rw [meanA_succ, e, et, nI_add]
    exact ⟨S + t, by omega, rfl⟩
theorem sg_X8_mean_0 {G : GW} {K : Option Value → Mem → Prop} {μ : Mem} {α : Mem} (hf : WF α) {x1 x2 x3 x4 x5 : Int32}  (h : (((inB x1 0 6) = false) → K (some (.long (-4611686018427387904 : Int64))) μ) ∧ (((inB x1 0 6) = true) → (((inB x2 0 6) = false) → K (some (.long (-4611686018427387904 : Int64))) μ) ∧ (((inB x2 0 6) = true) → (((inB x3 (0 : Int32) (99999 : Int32)) = false) → K (some (.long (-4611686018427387904 : Int64))) μ) ∧ (((inB x3 (0 : Int32) (99999 : Int32)) = true) → (((inB x4 (1 : Int32) (30 : Int32)) = false) → K (some (.long (-4611686018427387904 : Int64))) μ) ∧ (((inB x4 (1 : Int32) (30 : Int32)) = true) → (((inB x5 (0 : Int32) (1 : Int32)) = true) → Ev2 G mX8_mean 6 56 [(0, .ref 82), (1, .int x1), (2, .int x2), (3, .int x3), (4, .int x4), (5, .int x5), (6, .long (0 : Int64)), (8, .int 0)] [] μ K) ∧ (((inB x5 (0 : Int32) (1 : Int32)) = false) → K (some (.long (-4611686018427387904 : Int64))) μ)))))) : Ev2 G mX8_mean 6 0 [(0, .ref 82), (1, .int x1), (2, .int x2), (3, .int x3), (4, .int x4), (5, .int x5)] [] μ K := by
  refine ev_iload_n dX8_mean_0 1 rfl ?_
  refine e2_callS (w := .int (bi (inB x1 0 6))) (μ1 := μ) (as := [.int x1]) (st := []) ok_X8_isPlace sv_X8_isPlace ml_8_18 dX8_mean_1 rfl rfl (Nat.le_of_ble_eq_true rfl) (Nat.le_of_ble_eq_true rfl) (by decide) (ct_X8_isPlace (x1) μ) ?_
  refine ev_ifeq_bi (tgt := 46) dX8_mean_4 rfl (fun c1 => ?_) (fun c1 => ?_)
  · have h2 := h.1 c1
    refine ev_ldc2 dX8_mean_46 co_8_282 ?_
    exact ev_lreturn dX8_mean_49 rfl rfl rfl ⟨rfl, h2⟩
  · have h3 := h.2 c1
    refine ev_iload_n dX8_mean_7 2 rfl ?_
    refine e2_callS (w := .int (bi (inB x2 0 6))) (μ1 := μ) (as := [.int x2]) (st := []) ok_X8_isPlace sv_X8_isPlace ml_8_18 dX8_mean_8 rfl rfl (Nat.le_of_ble_eq_true rfl) (Nat.le_of_ble_eq_true rfl) (by decide) (ct_X8_isPlace (x2) μ) ?_
    refine ev_ifeq_bi (tgt := 46) dX8_mean_11 rfl (fun c4 => ?_) (fun c4 => ?_)
    · have h5 := h3.1 c4
      refine ev_ldc2 dX8_mean_46 co_8_282 ?_
      exact ev_lreturn dX8_mean_49 rfl rfl rfl ⟨rfl, h5⟩
    · have h6 := h3.2 c4
      refine ev_iload_n dX8_mean_14 3 rfl ?_
      refine ev_iconst (v := 0) dX8_mean_15 rfl ?_
      refine ev_ldcw dX8_mean_16 co_8_302 ?_
      refine e2_callS (w := .int (bi (inB x3 (0 : Int32) (99999 : Int32)))) (μ1 := μ) (as := [.int x3, .int 0, .int 99999]) (st := []) ok_X8_isIn sv_X8_isIn ml_8_3 dX8_mean_19 rfl rfl (Nat.le_of_ble_eq_true rfl) (Nat.le_of_ble_eq_true rfl) (by decide) (ct_X8_isIn (x3) (0) (99999) μ) ?_
      refine ev_ifeq_bi (tgt := 46) dX8_mean_22 rfl (fun c7 => ?_) (fun c7 => ?_)
      · have h8 := h6.1 c7
        refine ev_ldc2 dX8_mean_46 co_8_282 ?_
        exact ev_lreturn dX8_mean_49 rfl rfl rfl ⟨rfl, h8⟩
      · have h9 := h6.2 c7
        refine ev_iload dX8_mean_25 4 rfl ?_
        refine ev_iconst (v := 1) dX8_mean_27 rfl ?_
        refine ev_bipush (v := 30) dX8_mean_28 rfl ?_
        refine e2_callS (w := .int (bi (inB x4 (1 : Int32) (30 : Int32)))) (μ1 := μ) (as := [.int x4, .int 1, .int 30]) (st := []) ok_X8_isIn sv_X8_isIn ml_8_3 dX8_mean_30 rfl rfl (Nat.le_of_ble_eq_true rfl) (Nat.le_of_ble_eq_true rfl) (by decide) (ct_X8_isIn (x4) (1) (30) μ) ?_
        refine ev_ifeq_bi (tgt := 46) dX8_mean_33 rfl (fun c10 => ?_) (fun c10 => ?_)
        · have h11 := h9.1 c10
          refine ev_ldc2 dX8_mean_46 co_8_282 ?_
          exact ev_lreturn dX8_mean_49 rfl rfl rfl ⟨rfl, h11⟩
        · have h12 := h9.2 c10
          refine ev_iload dX8_mean_36 5 rfl ?_
          refine ev_iconst (v := 0) dX8_mean_38 rfl ?_
          refine ev_iconst (v := 1) dX8_mean_39 rfl ?_
          refine e2_callS (w := .int (bi (inB x5 (0 : Int32) (1 : Int32)))) (μ1 := μ) (as := [.int x5, .int 0, .int 1]) (st := []) ok_X8_isIn sv_X8_isIn ml_8_3 dX8_mean_40 rfl rfl (Nat.le_of_ble_eq_true rfl) (Nat.le_of_ble_eq_true rfl) (by decide) (ct_X8_isIn (x5) (0) (1) μ) ?_
          refine ev_ifne_bi (tgt := 50) dX8_mean_43 rfl (fun c13 => ?_) (fun c13 => ?_)
          · have h14 := h12.1 c13
            refine ev_lconst (v := (0 : Int64)) dX8_mean_50 rfl ?_
            refine ev_lstore (lv' := [(0, .ref 82), (1, .int x1), (2, .int x2), (3, .int x3), (4, .int x4), (5, .int x5), (6, .long (0 : Int64))]) dX8_mean_51 (by decide) [1, 2, 3, 4, 5, 6, 0] rfl ?_
            refine ev_iconst (v := 0) dX8_mean_53 rfl ?_
            refine ev_istore (lv' := [(0, .ref 82), (1, .int x1), (2, .int x2), (3, .int x3), (4, .int x4), (5, .int x5), (6, .long (0 : Int64)), (8, .int 0)]) dX8_mean_54 (by decide) [1, 2, 3, 4, 5, 6, 7, 0] rfl ?_
            exact h14
          · have h15 := h12.2 c13
            refine ev_ldc2 dX8_mean_46 co_8_282 ?_
            exact ev_lreturn dX8_mean_49 rfl rfl rfl ⟨rfl, h15⟩
theorem sg_X8_mean_56 {G : GW} {K : Option Value → Mem → Prop} {μ : Mem} {α : Mem} (hf : WF α) {x1 x2 x3 x4 x5 x8 : Int32} {x6 : Int64}  (h : ((x4 ≤ x8) → (gcP x6 (Int32.toInt64 x4)) ∧ ((¬ x5 = 0) → (¬ (gcL x6 (Int32.toInt64 x4)) = 0) ∧ K (some (.long ((Int32.toInt64 x4) / (gcL x6 (Int32.toInt64 x4))))) μ) ∧ ((x5 = 0) → (¬ (gcL x6 (Int32.toInt64 x4)) = 0) ∧ K (some (.long (x6 / (gcL x6 (Int32.toInt64 x4))))) μ)) ∧ ((¬ (x4 ≤ x8)) → (VM α μ) ∧ ∀ (z15 : Int32) (μ16 : Mem), (z15 = drwV (fun x => saidA α 2 x) (x3 + x8) (aN α) ∧ onlyM 99 100 μ μ16) → (VM α μ16 ∧ inB x1 0 6 = true ∧ inB x2 0 6 = true ∧ setOK (aN α) z15) ∧ ∀ (z21 : Int32) (μ22 : Mem), (z21 = soonA α z15 x1.toNatClampNeg x2.toNatClampNeg ∧ onlyM 99 105 μ16 μ22) → Ev2 G mX8_mean 6 56 [(0, .ref 82), (1, .int x1), (2, .int x2), (3, .int x3), (4, .int x4), (5, .int x5), (6, .long (x6 + (Int32.toInt64 z21))), (8, .int (x8 + 1))] [] μ22 K)) : Ev2 G mX8_mean 6 56 [(0, .ref 82), (1, .int x1), (2, .int x2), (3, .int x3), (4, .int x4), (5, .int x5), (6, .long x6), (8, .int x8)] [] μ K := by
  refine ev_iload dX8_mean_56 7 rfl ?_
  refine ev_iload dX8_mean_58 4 rfl ?_
  refine ev_icmp_ge (tgt := 89) dX8_mean_60 rfl (fun c1 => ?_) (fun c1 => ?_)
  · have h2 := h.1 c1
    refine ev_lload dX8_mean_89 6 rfl ?_
    refine ev_iload dX8_mean_91 4 rfl ?_
    refine ev_i2l dX8_mean_93 ?_
    have p4 := h2.1
    have h5 := h2.2
    refine e2_callS (w := .long (gcL x6 (Int32.toInt64 x4))) (μ1 := μ) (as := [.long x6, .long (Int32.toInt64 x4)]) (st := []) ok_X8_divisor sv_X8_divisor ml_8_306 dX8_mean_94 rfl rfl (Nat.le_of_ble_eq_true rfl) (Nat.le_of_ble_eq_true rfl) (by decide) (ct_X8_divisor (x6) ((Int32.toInt64 x4)) μ p4) ?_
    refine ev_lstore (lv' := [(0, .ref 82), (1, .int x1), (2, .int x2), (3, .int x3), (4, .int x4), (5, .int x5), (6, .long x6), (8, .long (gcL x6 (Int32.toInt64 x4)))]) dX8_mean_97 (by decide) [1, 2, 3, 4, 5, 6, 7, 0] rfl ?_
    refine ev_iload dX8_mean_99 5 rfl ?_
    refine ev_if_ne (tgt := 112) dX8_mean_101 rfl (fun c6 => ?_) (fun c6 => ?_)
    · have h7 := h5.1 c6
      refine ev_iload dX8_mean_112 4 rfl ?_
      refine ev_i2l dX8_mean_114 ?_
      refine ev_lload dX8_mean_115 7 rfl ?_
      have p9 := h7.1
      have h10 := h7.2
      refine ev_ldiv dX8_mean_117 p9 ?_
      exact ev_lreturn dX8_mean_118 rfl rfl rfl ⟨rfl, h10⟩
    · have h8 := h5.2 c6
      refine ev_lload dX8_mean_104 6 rfl ?_
      refine ev_lload dX8_mean_106 7 rfl ?_
      have p11 := h8.1
      have h12 := h8.2
      refine ev_ldiv dX8_mean_108 p11 ?_
      refine ev_goto (tgt := 118) dX8_mean_109 rfl ?_
      exact ev_lreturn dX8_mean_118 rfl rfl rfl ⟨rfl, h12⟩
  · have h3 := h.2 c1
    refine ev_lload dX8_mean_63 6 rfl ?_
    refine ev_aload_n dX8_mean_65 0 rfl (by decide) ?_
    refine ev_iload_n dX8_mean_66 1 rfl ?_
    refine ev_iload_n dX8_mean_67 2 rfl ?_
    refine ev_aload_n dX8_mean_68 0 rfl (by decide) ?_
    refine ev_iload_n dX8_mean_69 3 rfl ?_
    refine ev_iload dX8_mean_70 7 rfl ?_
    refine ev_iadd dX8_mean_72 ?_
    have p13 := h3.1
    have h14 := h3.2
    refine e2_callVr (Rl := fun z15 μ16 => z15 = drwV (fun x => saidA α 2 x) (x3 + x8) (aN α) ∧ onlyM 99 100 μ μ16) (a := 82) (as := [.int (x3 + x8)]) (st := [.int x2, .int x1, .ref 82, .long x6]) ok_X8_drawnBy vi_X8_drawnBy ml_8_303 hcl_8 kd_82 dX8_mean_73 rfl rfl (Nat.le_of_ble_eq_true rfl) (Nat.le_of_ble_eq_true rfl) (by decide) (ct_X8_drawnBy hf ((x3 + x8)) μ p13) (fun z15 μ16 r17 => ?_)
    have h18 := h14 z15 μ16 r17
    have p19 := h18.1
    have h20 := h18.2
    refine e2_callVr (Rl := fun z21 μ22 => z21 = soonA α z15 x1.toNatClampNeg x2.toNatClampNeg ∧ onlyM 99 105 μ16 μ22) (a := 82) (as := [.int x1, .int x2, .int z15]) (st := [.long x6]) ok_X8_soonTo vi_X8_soonTo ml_8_272 hcl_8 kd_82 dX8_mean_76 rfl rfl (Nat.le_of_ble_eq_true rfl) (Nat.le_of_ble_eq_true rfl) (by decide) (ct_X8_soonTo hf (x1) (x2) (z15) μ16 p19) (fun z21 μ22 r23 => ?_)
    have h24 := h20 z21 μ22 r23
    refine ev_i2l dX8_mean_79 ?_
    refine ev_ladd dX8_mean_80 ?_
    refine ev_lstore (lv' := [(0, .ref 82), (1, .int x1), (2, .int x2), (3, .int x3), (4, .int x4), (5, .int x5), (6, .long (x6 + (Int32.toInt64 z21))), (8, .int x8)]) dX8_mean_81 (by decide) [1, 2, 3, 4, 5, 6, 0, 7] rfl ?_
    refine ev_iinc (v := (x8 + 1)) (lv' := [(0, .ref 82), (1, .int x1), (2, .int x2), (3, .int x3), (4, .int x4), (5, .int x5), (6, .long (x6 + (Int32.toInt64 z21))), (8, .int (x8 + 1))]) dX8_mean_83 7 rfl rfl (by decide) [1, 2, 3, 4, 5, 6, 7, 0] rfl ?_
    refine ev_goto (tgt := 56) dX8_mean_86 rfl ?_
    exact h24
theorem lp_X8_mean {G : GW} {α μ0 : Mem} (hf : WF α) {a b N : Nat} (ha : a < 7) (hb : b < 7) (hN1 : 1 ≤ N) (hN : N ≤ 30) {seed x5 : Int32} : ∀ j i (μ : Mem), i + j = N → VM α μ → keepX μ0 μ → Ev2 G mX8_mean 6 56 [(0, .ref 82), (1, .int (nI a)), (2, .int (nI b)), (3, .int seed), (4, .int (nI N)), (5, .int x5), (6, .long (Int32.toInt64 (meanA α a b seed i))), (8, .int (nI i))] [] μ (fun v μ' => v = some (.long (if x5 = 0 then Int32.toInt64 (meanA α a b seed N / gcF 64 (nI N) (meanA α a b seed N)) else Int32.toInt64 (nI N / gcF 64 (nI N) (meanA α a b seed N)))) ∧ VM α μ' ∧ keepX μ0 μ') := by
  intro j
  induction j with
  | zero =>
    intro i μ hi h hm
    obtain rfl : i = N := hi
    obtain ⟨S, hS, eS⟩ := mean_range hf ha hb (seed := seed) i hN
    have eL : Int32.toInt64 (nI S) = mLg S := rfl
    have eN : Int32.toInt64 (nI i) = mLg i := rfl
    have g1 : Nat.gcd i S ≤ i := Nat.gcd_le_left S (by omega)
    have g0 : 0 < Nat.gcd i S := Nat.gcd_pos_of_pos_left S (by omega)
    have gz : ¬ mLg (Nat.gcd i S) = 0 := fun q => by
      have := (mLg_0 (by omega)).mp q
      omega
    rw [eS, gcF_64 hN1 hN (by omega), pk_div (by omega) g0 (by omega), pk_div (by omega) g0 (by omega), eL]
    refine sg_X8_mean_56 hf ?_
    rw [eN, gcL_m (by omega) (by omega), Nat.gcd_comm S i, mLg_div (by omega) (by omega), mLg_div (by omega) (by omega)]
    refine ⟨fun _ => ⟨⟨S, i, by omega, by omega, rfl, rfl⟩, fun c => ⟨gz, ?_, h, hm⟩, fun c => ⟨gz, ?_, h, hm⟩⟩, fun c => absurd (Int32.le_refl _) c⟩
    · rw [if_neg c]
      rfl
    · rw [if_pos c]
      rfl
  | succ j ih =>
    intro i μ hi h hm
    refine sg_X8_mean_56 hf ⟨fun c => absurd c (nI_ge (by omega) (by omega)), fun _ => ⟨h, fun z ν hz => ?_⟩⟩
    obtain ⟨ez, ho⟩ := hz
    obtain ⟨h1, k1⟩ := h.W hf ho
    have hs : setOK (aN α) (drwV (fun x => saidA α 2 x) (seed + nI i) (aN α)) := drwV_ok _ hf.1.1.2
    rw [← ez] at hs
    refine ⟨⟨h1, inB_7 ha, inB_7 hb, hs⟩, fun x ξ hx => ?_⟩
    rw [ix_nI (i := a) (by omega), ix_nI (i := b) (by omega)] at hx
    obtain ⟨ex, ho2⟩ := hx
    obtain ⟨h2, k2⟩ := h1.o hf ho2
    have hh := ih (i + 1) ξ (by omega) h2 ((hm.tr k1).tr k2)
    obtain ⟨S, hS, eS⟩ := mean_range hf ha hb (seed := seed) i (by omega)
    obtain ⟨t, ht, et⟩ := soon_999 hf hs ha hb
    rw [meanA_succ, ← ez, eS, et, nI_add, ← nI_1] at hh
    rw [ex, eS, et]
    have e3 : Int32.toInt64 (nI S) + Int32.toInt64 (nI t) = Int32.toInt64 (nI (S + t)) := mLg_add (by omega)
    rw [e3]
    exact hh
theorem pb_X8_mean {G : GW} {α μ : Mem} (hf : WF α) (h : VM α μ) (x1 x2 x3 x4 x5 : Int32) : pubM G mX8_mean 6 [(0, .ref 82), (1, .int x1), (2, .int x2), (3, .int x3), (4, .int x4), (5, .int x5)] α μ (.long (sp_mean α x1 x2 x3 x4 x5)) α := by
  have no : askB x1 x2 x3 x4 x5 = false → some (Value.long (-4611686018427387904)) = some (Value.long (sp_mean α x1 x2 x3 x4 x5)) ∧ VM α μ ∧ keepX μ μ := fun q => by
    unfold sp_mean
    rw [if_neg (by rw [q]; decide)]
    exact ⟨rfl, h, keepX.rf μ⟩
  refine sg_X8_mean_0 hf ⟨fun c => no (by unfold askB; rw [c]; rfl), fun c1 => ⟨fun c => no (by unfold askB; rw [c1, c]; rfl), fun c2 => ⟨fun c => no (by unfold askB; rw [c1, c2, c]; rfl), fun c3 => ⟨fun c => no (by unfold askB; rw [c1, c2, c3, c]; rfl), fun c4 => ⟨fun c5 => ?_, fun c => no (by unfold askB; rw [c1, c2, c3, c4, c]; rfl)⟩⟩⟩⟩⟩
  have ca : askB x1 x2 x3 x4 x5 = true := by
    unfold askB
    rw [c1, c2, c3, c4, c5]
    rfl
  unfold sp_mean
  rw [if_pos ca]
  obtain ⟨a, ha, rfl⟩ := inB_p c1
  obtain ⟨b, hb, rfl⟩ := inB_p c2
  obtain ⟨N, hN, hN', rfl⟩ := inB_mid (lo := 1) (hi := 30) (by omega) (by omega) c4
  rw [ix_nI (i := a) (by omega), ix_nI (i := b) (by omega), ix_nI (i := N) (by omega)]
  have hh := lp_X8_mean (G := G) hf (a := a) (b := b) (N := N) ha hb hN hN' (seed := x3) (x5 := x5) N 0 μ (Nat.zero_add _) h (keepX.rf μ)
  rw [meanA] at hh
  exact hh
