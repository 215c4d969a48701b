/-! ===== the reference is made ===== -/
def mLF : List (Nat × Nat) := [(17, 0), (4, 7), (1, 7), (1, 7), (1, 7), (1, 7), (1, 7), (1, 7), (1, 7), (5, 7), (1, 4), (1, 4), (6, 6), (12, 0), (15, 0), (1, 160), (13, 0), (1, 7), (1, 7), (1, 7), (2, 7), (1, 7), (11, 0), (4, 7), (1, 7), (1, 7), (1, 7), (1, 7), (1, 7), (1, 7), (1, 7), (1, 7), (7, 4), (10, 0), (10, 0), (10, 0), (10, 0), (10, 0), (10, 0), (10, 0), (16, 0), (1, 160), (1, 3), (1, 40), (16, 0), (1, 160), (1, 3), (1, 40), (16, 0), (1, 160), (1, 3), (1, 40), (16, 0), (1, 160), (1, 3), (1, 40), (16, 0), (1, 160), (1, 3), (1, 40), (16, 0), (1, 160), (1, 3), (1, 40), (14, 0), (1, 40), (14, 0), (1, 40), (14, 0), (1, 40), (14, 0), (1, 40), (18, 0), (1, 49), (1, 4), (1, 4), (1, 8), (1, 8), (1, 8), (1, 8), (1, 8), (1, 8), (1, 160), (1, 2880), (1, 18), (3, 41), (1, 13), (1, 170), (2, 8), (1, 170), (1, 6), (1, 7), (1, 7), (1, 7), (2, 7), (1, 8), (1, 7), (1, 49), (1, 8), (1, 4), (1, 4), (1, 160), (1, 40)]
def mRF : List (Nat × Nat × Nat) := [(82, 48, 112), (82, 47, 111), (82, 46, 110), (82, 45, 109), (82, 41, 108), (82, 40, 107), (82, 37, 106), (82, 36, 105), (82, 35, 104), (82, 34, 103), (82, 33, 102), (82, 32, 101), (82, 31, 100), (82, 30, 99), (82, 27, 98), (82, 23, 97), (82, 22, 96), (82, 21, 95), (82, 16, 94), (82, 15, 93), (82, 11, 92), (82, 10, 91), (82, 9, 90), (82, 8, 89), (82, 7, 88), (82, 6, 87), (82, 5, 86), (82, 3, 85), (82, 2, 84), (82, 0, 83), (42, 3, 80), (80, 0, 81), (42, 2, 78), (78, 0, 79), (42, 1, 76), (76, 0, 77), (42, 0, 74), (74, 0, 75), (22, 5, 70), (70, 2, 73), (70, 1, 72), (70, 0, 71), (22, 4, 66), (66, 2, 69), (66, 1, 68), (66, 0, 67), (22, 3, 62), (62, 2, 65), (62, 1, 64), (62, 0, 63), (22, 2, 58), (58, 2, 61), (58, 1, 60), (58, 0, 59), (22, 1, 54), (54, 2, 57), (54, 1, 56), (54, 0, 55), (22, 0, 50), (50, 2, 53), (50, 1, 52), (50, 0, 51), (19, 6, 49), (19, 5, 48), (19, 4, 47), (19, 3, 46), (19, 2, 45), (19, 1, 44), (19, 0, 43), (10, 8, 42), (10, 7, 32), (32, 1, 41), (32, 0, 33), (33, 0, 34), (33, 1, 35), (33, 2, 36), (33, 3, 37), (33, 4, 38), (33, 5, 39), (33, 6, 40), (10, 6, 26), (26, 4, 31), (26, 3, 30), (26, 2, 29), (26, 1, 28), (26, 0, 27), (10, 5, 23), (23, 0, 24), (24, 0, 25), (10, 4, 22), (10, 3, 21), (10, 2, 20), (10, 1, 19), (10, 0, 11), (11, 0, 12), (11, 1, 13), (11, 2, 14), (11, 3, 15), (11, 4, 16), (11, 5, 17), (11, 6, 18)]
def mEA : List (Nat × Nat × Int32) := [(82, 13, 1), (94, 2, 1), (93, 320, 1), (94, 1, 1), (93, 160, 0), (94, 0, 1), (93, 0, 0), (109, 3, (-1)), (109, 2, (-1)), (109, 1, (-1)), (109, 0, (-1)), (96, 12, 41), (96, 11, 38), (96, 10, 35), (96, 9, 33), (96, 8, 29), (96, 7, 25), (96, 6, 22), (96, 5, 19), (96, 4, 14), (96, 3, 12), (96, 2, 8), (96, 1, 4), (96, 0, 0), (95, 40, 116), (95, 39, 111), (95, 38, 110), (95, 37, 100), (95, 36, 110), (95, 35, 97), (95, 34, 114), (95, 33, 111), (95, 32, 115), (95, 31, 101), (95, 30, 105), (95, 29, 100), (95, 28, 101), (95, 27, 109), (95, 26, 111), (95, 25, 104), (95, 24, 116), (95, 23, 117), (95, 22, 111), (95, 21, 114), (95, 20, 97), (95, 19, 102), (95, 18, 121), (95, 17, 100), (95, 16, 97), (95, 15, 101), (95, 14, 114), (95, 13, 111), (95, 12, 116), (95, 11, 109), (95, 10, 111), (95, 9, 114), (95, 8, 102), (95, 7, 101), (95, 6, 114), (95, 5, 111), (95, 4, 109), (95, 3, 100), (95, 2, 108), (95, 1, 111), (95, 0, 116)] ++ xES
def mL0 : List (Nat × Nat) := xLS ++ [(18, 0)]
theorem mk_X8_A {G : GW} {K : Option Value → HS → Mem → Prop} (kk : EvW G mX8_init 2 113 5779 624 [(0, .ref 82), (1, .int 0)] [] (SL 5779 mLF mRF) (ML mEA) K) : EvW G mX8_init 2 113 5779 0 [(0, .ref 82)] [] (SL 1900 mL0 xRS) (ML xES) K := by
  refine ev_aload_n dX8_init_0 0 rfl (by decide) ?_
  refine mk_objInit (k := 17) ml_8_190 (by decide +kernel) dX8_init_1 (Nat.le_of_ble_eq_true rfl) (by decide) ?_
  refine ev_aload_n dX8_init_4 0 rfl (by decide) ?_
  refine ev_bipush (v := 49) dX8_init_5 rfl ?_
  refine mk_arr (k := 1) (nn := 49) (n := 83) (n' := 84) ⟨by decide +kernel, by decide +kernel, by decide +kernel⟩ (Or.inl ⟨rfl, rfl⟩) ac_int ⟨by decide, rfl, by decide⟩ dX8_init_7 rfl (by decide) (by decide) (fun _ => ?_)
  refine mk_putR (ci := 8) fl_8_14 rfl (fun r hr => by cases hr; exact ⟨rfl, rfl⟩) rfl (by decide +kernel) (j := 0) (by decide +kernel) dX8_init_9 ?_
  refine ev_aload_n dX8_init_12 0 rfl (by decide) ?_
  refine ev_iconst (v := 4) dX8_init_13 rfl ?_
  refine mk_arr (k := 1) (nn := 4) (n := 84) (n' := 85) ⟨by decide +kernel, by decide +kernel, by decide +kernel⟩ (Or.inl ⟨rfl, rfl⟩) ac_int ⟨by decide, rfl, by decide⟩ dX8_init_14 rfl (by decide) (by decide) (fun _ => ?_)
  refine mk_putR (ci := 8) fl_8_26 rfl (fun r hr => by cases hr; exact ⟨rfl, rfl⟩) rfl (by decide +kernel) (j := 0) (by decide +kernel) dX8_init_16 ?_
  refine ev_aload_n dX8_init_19 0 rfl (by decide) ?_
  refine ev_iconst (v := 4) dX8_init_20 rfl ?_
  refine mk_arr (k := 1) (nn := 4) (n := 85) (n' := 86) ⟨by decide +kernel, by decide +kernel, by decide +kernel⟩ (Or.inl ⟨rfl, rfl⟩) ac_int ⟨by decide, rfl, by decide⟩ dX8_init_21 rfl (by decide) (by decide) (fun _ => ?_)
  refine mk_putR (ci := 8) fl_8_29 rfl (fun r hr => by cases hr; exact ⟨rfl, rfl⟩) rfl (by decide +kernel) (j := 0) (by decide +kernel) dX8_init_23 ?_
  refine ev_aload_n dX8_init_26 0 rfl (by decide) ?_
  refine ev_bipush (v := 8) dX8_init_27 rfl ?_
  refine mk_arr (k := 1) (nn := 8) (n := 86) (n' := 87) ⟨by decide +kernel, by decide +kernel, by decide +kernel⟩ (Or.inl ⟨rfl, rfl⟩) ac_int ⟨by decide, rfl, by decide⟩ dX8_init_29 rfl (by decide) (by decide) (fun _ => ?_)
  refine mk_putR (ci := 8) fl_8_35 rfl (fun r hr => by cases hr; exact ⟨rfl, rfl⟩) rfl (by decide +kernel) (j := 0) (by decide +kernel) dX8_init_31 ?_
  refine ev_aload_n dX8_init_34 0 rfl (by decide) ?_
  refine ev_bipush (v := 8) dX8_init_35 rfl ?_
  refine mk_arr (k := 1) (nn := 8) (n := 87) (n' := 88) ⟨by decide +kernel, by decide +kernel, by decide +kernel⟩ (Or.inl ⟨rfl, rfl⟩) ac_int ⟨by decide, rfl, by decide⟩ dX8_init_37 rfl (by decide) (by decide) (fun _ => ?_)
  refine mk_putR (ci := 8) fl_8_38 rfl (fun r hr => by cases hr; exact ⟨rfl, rfl⟩) rfl (by decide +kernel) (j := 0) (by decide +kernel) dX8_init_39 ?_
  refine ev_aload_n dX8_init_42 0 rfl (by decide) ?_
  refine ev_bipush (v := 8) dX8_init_43 rfl ?_
  refine mk_arr (k := 1) (nn := 8) (n := 88) (n' := 89) ⟨by decide +kernel, by decide +kernel, by decide +kernel⟩ (Or.inl ⟨rfl, rfl⟩) ac_int ⟨by decide, rfl, by decide⟩ dX8_init_45 rfl (by decide) (by decide) (fun _ => ?_)
  refine mk_putR (ci := 8) fl_8_41 rfl (fun r hr => by cases hr; exact ⟨rfl, rfl⟩) rfl (by decide +kernel) (j := 0) (by decide +kernel) dX8_init_47 ?_
  refine ev_aload_n dX8_init_50 0 rfl (by decide) ?_
  refine ev_bipush (v := 8) dX8_init_51 rfl ?_
  refine mk_arr (k := 1) (nn := 8) (n := 89) (n' := 90) ⟨by decide +kernel, by decide +kernel, by decide +kernel⟩ (Or.inl ⟨rfl, rfl⟩) ac_int ⟨by decide, rfl, by decide⟩ dX8_init_53 rfl (by decide) (by decide) (fun _ => ?_)
  refine mk_putR (ci := 8) fl_8_44 rfl (fun r hr => by cases hr; exact ⟨rfl, rfl⟩) rfl (by decide +kernel) (j := 0) (by decide +kernel) dX8_init_55 ?_
  refine ev_aload_n dX8_init_58 0 rfl (by decide) ?_
  refine ev_bipush (v := 8) dX8_init_59 rfl ?_
  refine mk_arr (k := 1) (nn := 8) (n := 90) (n' := 91) ⟨by decide +kernel, by decide +kernel, by decide +kernel⟩ (Or.inl ⟨rfl, rfl⟩) ac_int ⟨by decide, rfl, by decide⟩ dX8_init_61 rfl (by decide) (by decide) (fun _ => ?_)
  refine mk_putR (ci := 8) fl_8_47 rfl (fun r hr => by cases hr; exact ⟨rfl, rfl⟩) rfl (by decide +kernel) (j := 0) (by decide +kernel) dX8_init_63 ?_
  refine ev_aload_n dX8_init_66 0 rfl (by decide) ?_
  refine ev_bipush (v := 8) dX8_init_67 rfl ?_
  refine mk_arr (k := 1) (nn := 8) (n := 91) (n' := 92) ⟨by decide +kernel, by decide +kernel, by decide +kernel⟩ (Or.inl ⟨rfl, rfl⟩) ac_int ⟨by decide, rfl, by decide⟩ dX8_init_69 rfl (by decide) (by decide) (fun _ => ?_)
  refine mk_putR (ci := 8) fl_8_50 rfl (fun r hr => by cases hr; exact ⟨rfl, rfl⟩) rfl (by decide +kernel) (j := 0) (by decide +kernel) dX8_init_71 ?_
  refine ev_aload_n dX8_init_74 0 rfl (by decide) ?_
  refine ev_sipush (v := 160) dX8_init_75 rfl ?_
  refine mk_arr (k := 1) (nn := 160) (n := 92) (n' := 93) ⟨by decide +kernel, by decide +kernel, by decide +kernel⟩ (Or.inl ⟨rfl, rfl⟩) ac_int ⟨by decide, rfl, by decide⟩ dX8_init_78 rfl (by decide) (by decide) (fun _ => ?_)
  refine mk_putR (ci := 8) fl_8_82 rfl (fun r hr => by cases hr; exact ⟨rfl, rfl⟩) rfl (by decide +kernel) (j := 0) (by decide +kernel) dX8_init_80 ?_
  refine ev_aload_n dX8_init_83 0 rfl (by decide) ?_
  refine ev_sipush (v := 2880) dX8_init_84 rfl ?_
  refine mk_arr (k := 1) (nn := 2880) (n := 93) (n' := 94) ⟨by decide +kernel, by decide +kernel, by decide +kernel⟩ (Or.inl ⟨rfl, rfl⟩) ac_int ⟨by decide, rfl, by decide⟩ dX8_init_87 rfl (by decide) (by decide) (fun _ => ?_)
  refine mk_putR (ci := 8) fl_8_117 rfl (fun r hr => by cases hr; exact ⟨rfl, rfl⟩) rfl (by decide +kernel) (j := 0) (by decide +kernel) dX8_init_89 ?_
  refine ev_aload_n dX8_init_92 0 rfl (by decide) ?_
  refine ev_bipush (v := 18) dX8_init_93 rfl ?_
  refine mk_arr (k := 1) (nn := 18) (n := 94) (n' := 95) ⟨by decide +kernel, by decide +kernel, by decide +kernel⟩ (Or.inl ⟨rfl, rfl⟩) ac_int ⟨by decide, rfl, by decide⟩ dX8_init_95 rfl (by decide) (by decide) (fun _ => ?_)
  refine mk_putR (ci := 8) fl_8_165 rfl (fun r hr => by cases hr; exact ⟨rfl, rfl⟩) rfl (by decide +kernel) (j := 0) (by decide +kernel) dX8_init_97 ?_
  refine ev_aload_n dX8_init_100 0 rfl (by decide) ?_
  refine ev_bipush (v := 41) dX8_init_101 rfl ?_
  refine mk_arr (k := 3) (nn := 41) (n := 95) (n' := 96) ⟨by decide +kernel, by decide +kernel, by decide +kernel⟩ (Or.inr (Or.inr ⟨rfl, rfl⟩)) ac_char ⟨by decide, rfl, by decide⟩ dX8_init_103 rfl (by decide) (by decide) (fun _ => ?_)
  refine ev_dup dX8_init_105 rfl ?_
  refine ev_iconst (v := 0) dX8_init_106 rfl ?_
  refine ev_bipush (v := 116) dX8_init_107 rfl ?_
  refine mk_cst (m := 41) (j := 0) (by decide +kernel) (by decide +kernel) (vp_c ⟨rfl, rfl⟩) rfl rfl dX8_init_109 ?_
  refine ev_dup dX8_init_110 rfl ?_
  refine ev_iconst (v := 1) dX8_init_111 rfl ?_
  refine ev_bipush (v := 111) dX8_init_112 rfl ?_
  refine mk_cst (m := 41) (j := 1) (by decide +kernel) (by decide +kernel) (vp_c ⟨rfl, rfl⟩) rfl rfl dX8_init_114 ?_
  refine ev_dup dX8_init_115 rfl ?_
  refine ev_iconst (v := 2) dX8_init_116 rfl ?_
  refine ev_bipush (v := 108) dX8_init_117 rfl ?_
  refine mk_cst (m := 41) (j := 2) (by decide +kernel) (by decide +kernel) (vp_c ⟨rfl, rfl⟩) rfl rfl dX8_init_119 ?_
  refine ev_dup dX8_init_120 rfl ?_
  refine ev_iconst (v := 3) dX8_init_121 rfl ?_
  refine ev_bipush (v := 100) dX8_init_122 rfl ?_
  refine mk_cst (m := 41) (j := 3) (by decide +kernel) (by decide +kernel) (vp_c ⟨rfl, rfl⟩) rfl rfl dX8_init_124 ?_
  refine ev_dup dX8_init_125 rfl ?_
  refine ev_iconst (v := 4) dX8_init_126 rfl ?_
  refine ev_bipush (v := 109) dX8_init_127 rfl ?_
  refine mk_cst (m := 41) (j := 4) (by decide +kernel) (by decide +kernel) (vp_c ⟨rfl, rfl⟩) rfl rfl dX8_init_129 ?_
  refine ev_dup dX8_init_130 rfl ?_
  refine ev_iconst (v := 5) dX8_init_131 rfl ?_
  refine ev_bipush (v := 111) dX8_init_132 rfl ?_
  refine mk_cst (m := 41) (j := 5) (by decide +kernel) (by decide +kernel) (vp_c ⟨rfl, rfl⟩) rfl rfl dX8_init_134 ?_
  refine ev_dup dX8_init_135 rfl ?_
  refine ev_bipush (v := 6) dX8_init_136 rfl ?_
  refine ev_bipush (v := 114) dX8_init_138 rfl ?_
  refine mk_cst (m := 41) (j := 6) (by decide +kernel) (by decide +kernel) (vp_c ⟨rfl, rfl⟩) rfl rfl dX8_init_140 ?_
  refine ev_dup dX8_init_141 rfl ?_
  refine ev_bipush (v := 7) dX8_init_142 rfl ?_
  refine ev_bipush (v := 101) dX8_init_144 rfl ?_
  refine mk_cst (m := 41) (j := 7) (by decide +kernel) (by decide +kernel) (vp_c ⟨rfl, rfl⟩) rfl rfl dX8_init_146 ?_
  refine ev_dup dX8_init_147 rfl ?_
  refine ev_bipush (v := 8) dX8_init_148 rfl ?_
  refine ev_bipush (v := 102) dX8_init_150 rfl ?_
  refine mk_cst (m := 41) (j := 8) (by decide +kernel) (by decide +kernel) (vp_c ⟨rfl, rfl⟩) rfl rfl dX8_init_152 ?_
  refine ev_dup dX8_init_153 rfl ?_
  refine ev_bipush (v := 9) dX8_init_154 rfl ?_
  refine ev_bipush (v := 114) dX8_init_156 rfl ?_
  refine mk_cst (m := 41) (j := 9) (by decide +kernel) (by decide +kernel) (vp_c ⟨rfl, rfl⟩) rfl rfl dX8_init_158 ?_
  refine ev_dup dX8_init_159 rfl ?_
  refine ev_bipush (v := 10) dX8_init_160 rfl ?_
  refine ev_bipush (v := 111) dX8_init_162 rfl ?_
  refine mk_cst (m := 41) (j := 10) (by decide +kernel) (by decide +kernel) (vp_c ⟨rfl, rfl⟩) rfl rfl dX8_init_164 ?_
  refine ev_dup dX8_init_165 rfl ?_
  refine ev_bipush (v := 11) dX8_init_166 rfl ?_
  refine ev_bipush (v := 109) dX8_init_168 rfl ?_
  refine mk_cst (m := 41) (j := 11) (by decide +kernel) (by decide +kernel) (vp_c ⟨rfl, rfl⟩) rfl rfl dX8_init_170 ?_
  refine ev_dup dX8_init_171 rfl ?_
  refine ev_bipush (v := 12) dX8_init_172 rfl ?_
  refine ev_bipush (v := 116) dX8_init_174 rfl ?_
  refine mk_cst (m := 41) (j := 12) (by decide +kernel) (by decide +kernel) (vp_c ⟨rfl, rfl⟩) rfl rfl dX8_init_176 ?_
  refine ev_dup dX8_init_177 rfl ?_
  refine ev_bipush (v := 13) dX8_init_178 rfl ?_
  refine ev_bipush (v := 111) dX8_init_180 rfl ?_
  refine mk_cst (m := 41) (j := 13) (by decide +kernel) (by decide +kernel) (vp_c ⟨rfl, rfl⟩) rfl rfl dX8_init_182 ?_
  refine ev_dup dX8_init_183 rfl ?_
  refine ev_bipush (v := 14) dX8_init_184 rfl ?_
  refine ev_bipush (v := 114) dX8_init_186 rfl ?_
  refine mk_cst (m := 41) (j := 14) (by decide +kernel) (by decide +kernel) (vp_c ⟨rfl, rfl⟩) rfl rfl dX8_init_188 ?_
  refine ev_dup dX8_init_189 rfl ?_
  refine ev_bipush (v := 15) dX8_init_190 rfl ?_
  refine ev_bipush (v := 101) dX8_init_192 rfl ?_
  refine mk_cst (m := 41) (j := 15) (by decide +kernel) (by decide +kernel) (vp_c ⟨rfl, rfl⟩) rfl rfl dX8_init_194 ?_
  refine ev_dup dX8_init_195 rfl ?_
  refine ev_bipush (v := 16) dX8_init_196 rfl ?_
  refine ev_bipush (v := 97) dX8_init_198 rfl ?_
  refine mk_cst (m := 41) (j := 16) (by decide +kernel) (by decide +kernel) (vp_c ⟨rfl, rfl⟩) rfl rfl dX8_init_200 ?_
  refine ev_dup dX8_init_201 rfl ?_
  refine ev_bipush (v := 17) dX8_init_202 rfl ?_
  refine ev_bipush (v := 100) dX8_init_204 rfl ?_
  refine mk_cst (m := 41) (j := 17) (by decide +kernel) (by decide +kernel) (vp_c ⟨rfl, rfl⟩) rfl rfl dX8_init_206 ?_
  refine ev_dup dX8_init_207 rfl ?_
  refine ev_bipush (v := 18) dX8_init_208 rfl ?_
  refine ev_bipush (v := 121) dX8_init_210 rfl ?_
  refine mk_cst (m := 41) (j := 18) (by decide +kernel) (by decide +kernel) (vp_c ⟨rfl, rfl⟩) rfl rfl dX8_init_212 ?_
  refine ev_dup dX8_init_213 rfl ?_
  refine ev_bipush (v := 19) dX8_init_214 rfl ?_
  refine ev_bipush (v := 102) dX8_init_216 rfl ?_
  refine mk_cst (m := 41) (j := 19) (by decide +kernel) (by decide +kernel) (vp_c ⟨rfl, rfl⟩) rfl rfl dX8_init_218 ?_
  refine ev_dup dX8_init_219 rfl ?_
  refine ev_bipush (v := 20) dX8_init_220 rfl ?_
  refine ev_bipush (v := 97) dX8_init_222 rfl ?_
  refine mk_cst (m := 41) (j := 20) (by decide +kernel) (by decide +kernel) (vp_c ⟨rfl, rfl⟩) rfl rfl dX8_init_224 ?_
  refine ev_dup dX8_init_225 rfl ?_
  refine ev_bipush (v := 21) dX8_init_226 rfl ?_
  refine ev_bipush (v := 114) dX8_init_228 rfl ?_
  refine mk_cst (m := 41) (j := 21) (by decide +kernel) (by decide +kernel) (vp_c ⟨rfl, rfl⟩) rfl rfl dX8_init_230 ?_
  refine ev_dup dX8_init_231 rfl ?_
  refine ev_bipush (v := 22) dX8_init_232 rfl ?_
  refine ev_bipush (v := 111) dX8_init_234 rfl ?_
  refine mk_cst (m := 41) (j := 22) (by decide +kernel) (by decide +kernel) (vp_c ⟨rfl, rfl⟩) rfl rfl dX8_init_236 ?_
  refine ev_dup dX8_init_237 rfl ?_
  refine ev_bipush (v := 23) dX8_init_238 rfl ?_
  refine ev_bipush (v := 117) dX8_init_240 rfl ?_
  refine mk_cst (m := 41) (j := 23) (by decide +kernel) (by decide +kernel) (vp_c ⟨rfl, rfl⟩) rfl rfl dX8_init_242 ?_
  refine ev_dup dX8_init_243 rfl ?_
  refine ev_bipush (v := 24) dX8_init_244 rfl ?_
  refine ev_bipush (v := 116) dX8_init_246 rfl ?_
  refine mk_cst (m := 41) (j := 24) (by decide +kernel) (by decide +kernel) (vp_c ⟨rfl, rfl⟩) rfl rfl dX8_init_248 ?_
  refine ev_dup dX8_init_249 rfl ?_
  refine ev_bipush (v := 25) dX8_init_250 rfl ?_
  refine ev_bipush (v := 104) dX8_init_252 rfl ?_
  refine mk_cst (m := 41) (j := 25) (by decide +kernel) (by decide +kernel) (vp_c ⟨rfl, rfl⟩) rfl rfl dX8_init_254 ?_
  refine ev_dup dX8_init_255 rfl ?_
  refine ev_bipush (v := 26) dX8_init_256 rfl ?_
  refine ev_bipush (v := 111) dX8_init_258 rfl ?_
  refine mk_cst (m := 41) (j := 26) (by decide +kernel) (by decide +kernel) (vp_c ⟨rfl, rfl⟩) rfl rfl dX8_init_260 ?_
  refine ev_dup dX8_init_261 rfl ?_
  refine ev_bipush (v := 27) dX8_init_262 rfl ?_
  refine ev_bipush (v := 109) dX8_init_264 rfl ?_
  refine mk_cst (m := 41) (j := 27) (by decide +kernel) (by decide +kernel) (vp_c ⟨rfl, rfl⟩) rfl rfl dX8_init_266 ?_
  refine ev_dup dX8_init_267 rfl ?_
  refine ev_bipush (v := 28) dX8_init_268 rfl ?_
  refine ev_bipush (v := 101) dX8_init_270 rfl ?_
  refine mk_cst (m := 41) (j := 28) (by decide +kernel) (by decide +kernel) (vp_c ⟨rfl, rfl⟩) rfl rfl dX8_init_272 ?_
  refine ev_dup dX8_init_273 rfl ?_
  refine ev_bipush (v := 29) dX8_init_274 rfl ?_
  refine ev_bipush (v := 100) dX8_init_276 rfl ?_
  refine mk_cst (m := 41) (j := 29) (by decide +kernel) (by decide +kernel) (vp_c ⟨rfl, rfl⟩) rfl rfl dX8_init_278 ?_
  refine ev_dup dX8_init_279 rfl ?_
  refine ev_bipush (v := 30) dX8_init_280 rfl ?_
  refine ev_bipush (v := 105) dX8_init_282 rfl ?_
  refine mk_cst (m := 41) (j := 30) (by decide +kernel) (by decide +kernel) (vp_c ⟨rfl, rfl⟩) rfl rfl dX8_init_284 ?_
  refine ev_dup dX8_init_285 rfl ?_
  refine ev_bipush (v := 31) dX8_init_286 rfl ?_
  refine ev_bipush (v := 101) dX8_init_288 rfl ?_
  refine mk_cst (m := 41) (j := 31) (by decide +kernel) (by decide +kernel) (vp_c ⟨rfl, rfl⟩) rfl rfl dX8_init_290 ?_
  refine ev_dup dX8_init_291 rfl ?_
  refine ev_bipush (v := 32) dX8_init_292 rfl ?_
  refine ev_bipush (v := 115) dX8_init_294 rfl ?_
  refine mk_cst (m := 41) (j := 32) (by decide +kernel) (by decide +kernel) (vp_c ⟨rfl, rfl⟩) rfl rfl dX8_init_296 ?_
  refine ev_dup dX8_init_297 rfl ?_
  refine ev_bipush (v := 33) dX8_init_298 rfl ?_
  refine ev_bipush (v := 111) dX8_init_300 rfl ?_
  refine mk_cst (m := 41) (j := 33) (by decide +kernel) (by decide +kernel) (vp_c ⟨rfl, rfl⟩) rfl rfl dX8_init_302 ?_
  refine ev_dup dX8_init_303 rfl ?_
  refine ev_bipush (v := 34) dX8_init_304 rfl ?_
  refine ev_bipush (v := 114) dX8_init_306 rfl ?_
  refine mk_cst (m := 41) (j := 34) (by decide +kernel) (by decide +kernel) (vp_c ⟨rfl, rfl⟩) rfl rfl dX8_init_308 ?_
  refine ev_dup dX8_init_309 rfl ?_
  refine ev_bipush (v := 35) dX8_init_310 rfl ?_
  refine ev_bipush (v := 97) dX8_init_312 rfl ?_
  refine mk_cst (m := 41) (j := 35) (by decide +kernel) (by decide +kernel) (vp_c ⟨rfl, rfl⟩) rfl rfl dX8_init_314 ?_
  refine ev_dup dX8_init_315 rfl ?_
  refine ev_bipush (v := 36) dX8_init_316 rfl ?_
  refine ev_bipush (v := 110) dX8_init_318 rfl ?_
  refine mk_cst (m := 41) (j := 36) (by decide +kernel) (by decide +kernel) (vp_c ⟨rfl, rfl⟩) rfl rfl dX8_init_320 ?_
  refine ev_dup dX8_init_321 rfl ?_
  refine ev_bipush (v := 37) dX8_init_322 rfl ?_
  refine ev_bipush (v := 100) dX8_init_324 rfl ?_
  refine mk_cst (m := 41) (j := 37) (by decide +kernel) (by decide +kernel) (vp_c ⟨rfl, rfl⟩) rfl rfl dX8_init_326 ?_
  refine ev_dup dX8_init_327 rfl ?_
  refine ev_bipush (v := 38) dX8_init_328 rfl ?_
  refine ev_bipush (v := 110) dX8_init_330 rfl ?_
  refine mk_cst (m := 41) (j := 38) (by decide +kernel) (by decide +kernel) (vp_c ⟨rfl, rfl⟩) rfl rfl dX8_init_332 ?_
  refine ev_dup dX8_init_333 rfl ?_
  refine ev_bipush (v := 39) dX8_init_334 rfl ?_
  refine ev_bipush (v := 111) dX8_init_336 rfl ?_
  refine mk_cst (m := 41) (j := 39) (by decide +kernel) (by decide +kernel) (vp_c ⟨rfl, rfl⟩) rfl rfl dX8_init_338 ?_
  refine ev_dup dX8_init_339 rfl ?_
  refine ev_bipush (v := 40) dX8_init_340 rfl ?_
  refine ev_bipush (v := 116) dX8_init_342 rfl ?_
  refine mk_cst (m := 41) (j := 40) (by decide +kernel) (by decide +kernel) (vp_c ⟨rfl, rfl⟩) rfl rfl dX8_init_344 ?_
  refine mk_putR (ci := 8) fl_8_100 rfl (fun r hr => by cases hr; exact ⟨rfl, rfl⟩) rfl (by decide +kernel) (j := 2) (by decide +kernel) dX8_init_345 ?_
  refine ev_aload_n dX8_init_348 0 rfl (by decide) ?_
  refine ev_bipush (v := 13) dX8_init_349 rfl ?_
  refine mk_arr (k := 1) (nn := 13) (n := 96) (n' := 97) ⟨by decide +kernel, by decide +kernel, by decide +kernel⟩ (Or.inl ⟨rfl, rfl⟩) ac_int ⟨by decide, rfl, by decide⟩ dX8_init_351 rfl (by decide) (by decide) (fun _ => ?_)
  refine ev_dup dX8_init_353 rfl ?_
  refine ev_iconst (v := 0) dX8_init_354 rfl ?_
  refine ev_iconst (v := 0) dX8_init_355 rfl ?_
  refine mk_ist (m := 13) (j := 0) (by decide +kernel) (by decide +kernel) (vp_c ⟨rfl, rfl⟩) rfl dX8_init_356 ?_
  refine ev_dup dX8_init_357 rfl ?_
  refine ev_iconst (v := 1) dX8_init_358 rfl ?_
  refine ev_iconst (v := 4) dX8_init_359 rfl ?_
  refine mk_ist (m := 13) (j := 1) (by decide +kernel) (by decide +kernel) (vp_c ⟨rfl, rfl⟩) rfl dX8_init_360 ?_
  refine ev_dup dX8_init_361 rfl ?_
  refine ev_iconst (v := 2) dX8_init_362 rfl ?_
  refine ev_bipush (v := 8) dX8_init_363 rfl ?_
  refine mk_ist (m := 13) (j := 2) (by decide +kernel) (by decide +kernel) (vp_c ⟨rfl, rfl⟩) rfl dX8_init_365 ?_
  refine ev_dup dX8_init_366 rfl ?_
  refine ev_iconst (v := 3) dX8_init_367 rfl ?_
  refine ev_bipush (v := 12) dX8_init_368 rfl ?_
  refine mk_ist (m := 13) (j := 3) (by decide +kernel) (by decide +kernel) (vp_c ⟨rfl, rfl⟩) rfl dX8_init_370 ?_
  refine ev_dup dX8_init_371 rfl ?_
  refine ev_iconst (v := 4) dX8_init_372 rfl ?_
  refine ev_bipush (v := 14) dX8_init_373 rfl ?_
  refine mk_ist (m := 13) (j := 4) (by decide +kernel) (by decide +kernel) (vp_c ⟨rfl, rfl⟩) rfl dX8_init_375 ?_
  refine ev_dup dX8_init_376 rfl ?_
  refine ev_iconst (v := 5) dX8_init_377 rfl ?_
  refine ev_bipush (v := 19) dX8_init_378 rfl ?_
  refine mk_ist (m := 13) (j := 5) (by decide +kernel) (by decide +kernel) (vp_c ⟨rfl, rfl⟩) rfl dX8_init_380 ?_
  refine ev_dup dX8_init_381 rfl ?_
  refine ev_bipush (v := 6) dX8_init_382 rfl ?_
  refine ev_bipush (v := 22) dX8_init_384 rfl ?_
  refine mk_ist (m := 13) (j := 6) (by decide +kernel) (by decide +kernel) (vp_c ⟨rfl, rfl⟩) rfl dX8_init_386 ?_
  refine ev_dup dX8_init_387 rfl ?_
  refine ev_bipush (v := 7) dX8_init_388 rfl ?_
  refine ev_bipush (v := 25) dX8_init_390 rfl ?_
  refine mk_ist (m := 13) (j := 7) (by decide +kernel) (by decide +kernel) (vp_c ⟨rfl, rfl⟩) rfl dX8_init_392 ?_
  refine ev_dup dX8_init_393 rfl ?_
  refine ev_bipush (v := 8) dX8_init_394 rfl ?_
  refine ev_bipush (v := 29) dX8_init_396 rfl ?_
  refine mk_ist (m := 13) (j := 8) (by decide +kernel) (by decide +kernel) (vp_c ⟨rfl, rfl⟩) rfl dX8_init_398 ?_
  refine ev_dup dX8_init_399 rfl ?_
  refine ev_bipush (v := 9) dX8_init_400 rfl ?_
  refine ev_bipush (v := 33) dX8_init_402 rfl ?_
  refine mk_ist (m := 13) (j := 9) (by decide +kernel) (by decide +kernel) (vp_c ⟨rfl, rfl⟩) rfl dX8_init_404 ?_
  refine ev_dup dX8_init_405 rfl ?_
  refine ev_bipush (v := 10) dX8_init_406 rfl ?_
  refine ev_bipush (v := 35) dX8_init_408 rfl ?_
  refine mk_ist (m := 13) (j := 10) (by decide +kernel) (by decide +kernel) (vp_c ⟨rfl, rfl⟩) rfl dX8_init_410 ?_
  refine ev_dup dX8_init_411 rfl ?_
  refine ev_bipush (v := 11) dX8_init_412 rfl ?_
  refine ev_bipush (v := 38) dX8_init_414 rfl ?_
  refine mk_ist (m := 13) (j := 11) (by decide +kernel) (by decide +kernel) (vp_c ⟨rfl, rfl⟩) rfl dX8_init_416 ?_
  refine ev_dup dX8_init_417 rfl ?_
  refine ev_bipush (v := 12) dX8_init_418 rfl ?_
  refine ev_bipush (v := 41) dX8_init_420 rfl ?_
  refine mk_ist (m := 13) (j := 12) (by decide +kernel) (by decide +kernel) (vp_c ⟨rfl, rfl⟩) rfl dX8_init_422 ?_
  refine mk_putR (ci := 8) fl_8_94 rfl (fun r hr => by cases hr; exact ⟨rfl, rfl⟩) rfl (by decide +kernel) (j := 0) (by decide +kernel) dX8_init_423 ?_
  refine ev_aload_n dX8_init_426 0 rfl (by decide) ?_
  refine ev_sipush (v := 170) dX8_init_427 rfl ?_
  refine mk_arr (k := 1) (nn := 170) (n := 97) (n' := 98) ⟨by decide +kernel, by decide +kernel, by decide +kernel⟩ (Or.inl ⟨rfl, rfl⟩) ac_int ⟨by decide, rfl, by decide⟩ dX8_init_430 rfl (by decide) (by decide) (fun _ => ?_)
  refine mk_putR (ci := 8) fl_8_129 rfl (fun r hr => by cases hr; exact ⟨rfl, rfl⟩) rfl (by decide +kernel) (j := 0) (by decide +kernel) dX8_init_432 ?_
  refine ev_aload_n dX8_init_435 0 rfl (by decide) ?_
  refine ev_bipush (v := 8) dX8_init_436 rfl ?_
  refine mk_arr (k := 2) (nn := 8) (n := 98) (n' := 99) ⟨by decide +kernel, by decide +kernel, by decide +kernel⟩ (Or.inr (Or.inl ⟨rfl, rfl⟩)) ac_boolean ⟨by decide, rfl, by decide⟩ dX8_init_438 rfl (by decide) (by decide) (fun _ => ?_)
  refine mk_putR (ci := 8) fl_8_148 rfl (fun r hr => by cases hr; exact ⟨rfl, rfl⟩) rfl (by decide +kernel) (j := 1) (by decide +kernel) dX8_init_440 ?_
  refine ev_aload_n dX8_init_443 0 rfl (by decide) ?_
  refine ev_sipush (v := 170) dX8_init_444 rfl ?_
  refine mk_arr (k := 1) (nn := 170) (n := 99) (n' := 100) ⟨by decide +kernel, by decide +kernel, by decide +kernel⟩ (Or.inl ⟨rfl, rfl⟩) ac_int ⟨by decide, rfl, by decide⟩ dX8_init_447 rfl (by decide) (by decide) (fun _ => ?_)
  refine mk_putR (ci := 8) fl_8_195 rfl (fun r hr => by cases hr; exact ⟨rfl, rfl⟩) rfl (by decide +kernel) (j := 0) (by decide +kernel) dX8_init_449 ?_
  refine ev_aload_n dX8_init_452 0 rfl (by decide) ?_
  refine ev_bipush (v := 6) dX8_init_453 rfl ?_
  refine mk_arr (k := 1) (nn := 6) (n := 100) (n' := 101) ⟨by decide +kernel, by decide +kernel, by decide +kernel⟩ (Or.inl ⟨rfl, rfl⟩) ac_int ⟨by decide, rfl, by decide⟩ dX8_init_455 rfl (by decide) (by decide) (fun _ => ?_)
  refine mk_putR (ci := 8) fl_8_198 rfl (fun r hr => by cases hr; exact ⟨rfl, rfl⟩) rfl (by decide +kernel) (j := 0) (by decide +kernel) dX8_init_457 ?_
  refine ev_aload_n dX8_init_460 0 rfl (by decide) ?_
  refine ev_bipush (v := 7) dX8_init_461 rfl ?_
  refine mk_arr (k := 1) (nn := 7) (n := 101) (n' := 102) ⟨by decide +kernel, by decide +kernel, by decide +kernel⟩ (Or.inl ⟨rfl, rfl⟩) ac_int ⟨by decide, rfl, by decide⟩ dX8_init_463 rfl (by decide) (by decide) (fun _ => ?_)
  refine mk_putR (ci := 8) fl_8_201 rfl (fun r hr => by cases hr; exact ⟨rfl, rfl⟩) rfl (by decide +kernel) (j := 0) (by decide +kernel) dX8_init_465 ?_
  refine ev_aload_n dX8_init_468 0 rfl (by decide) ?_
  refine ev_bipush (v := 7) dX8_init_469 rfl ?_
  refine mk_arr (k := 1) (nn := 7) (n := 102) (n' := 103) ⟨by decide +kernel, by decide +kernel, by decide +kernel⟩ (Or.inl ⟨rfl, rfl⟩) ac_int ⟨by decide, rfl, by decide⟩ dX8_init_471 rfl (by decide) (by decide) (fun _ => ?_)
  refine mk_putR (ci := 8) fl_8_204 rfl (fun r hr => by cases hr; exact ⟨rfl, rfl⟩) rfl (by decide +kernel) (j := 0) (by decide +kernel) dX8_init_473 ?_
  refine ev_aload_n dX8_init_476 0 rfl (by decide) ?_
  refine ev_bipush (v := 7) dX8_init_477 rfl ?_
  refine mk_arr (k := 1) (nn := 7) (n := 103) (n' := 104) ⟨by decide +kernel, by decide +kernel, by decide +kernel⟩ (Or.inl ⟨rfl, rfl⟩) ac_int ⟨by decide, rfl, by decide⟩ dX8_init_479 rfl (by decide) (by decide) (fun _ => ?_)
  refine mk_putR (ci := 8) fl_8_207 rfl (fun r hr => by cases hr; exact ⟨rfl, rfl⟩) rfl (by decide +kernel) (j := 0) (by decide +kernel) dX8_init_481 ?_
  refine ev_aload_n dX8_init_484 0 rfl (by decide) ?_
  refine ev_bipush (v := 7) dX8_init_485 rfl ?_
  refine mk_arr (k := 2) (nn := 7) (n := 104) (n' := 105) ⟨by decide +kernel, by decide +kernel, by decide +kernel⟩ (Or.inr (Or.inl ⟨rfl, rfl⟩)) ac_boolean ⟨by decide, rfl, by decide⟩ dX8_init_487 rfl (by decide) (by decide) (fun _ => ?_)
  refine mk_putR (ci := 8) fl_8_210 rfl (fun r hr => by cases hr; exact ⟨rfl, rfl⟩) rfl (by decide +kernel) (j := 1) (by decide +kernel) dX8_init_489 ?_
  refine ev_aload_n dX8_init_492 0 rfl (by decide) ?_
  refine ev_bipush (v := 8) dX8_init_493 rfl ?_
  refine mk_arr (k := 1) (nn := 8) (n := 105) (n' := 106) ⟨by decide +kernel, by decide +kernel, by decide +kernel⟩ (Or.inl ⟨rfl, rfl⟩) ac_int ⟨by decide, rfl, by decide⟩ dX8_init_495 rfl (by decide) (by decide) (fun _ => ?_)
  refine mk_putR (ci := 8) fl_8_213 rfl (fun r hr => by cases hr; exact ⟨rfl, rfl⟩) rfl (by decide +kernel) (j := 0) (by decide +kernel) dX8_init_497 ?_
  refine ev_aload_n dX8_init_500 0 rfl (by decide) ?_
  refine ev_bipush (v := 7) dX8_init_501 rfl ?_
  refine mk_arr (k := 1) (nn := 7) (n := 106) (n' := 107) ⟨by decide +kernel, by decide +kernel, by decide +kernel⟩ (Or.inl ⟨rfl, rfl⟩) ac_int ⟨by decide, rfl, by decide⟩ dX8_init_503 rfl (by decide) (by decide) (fun _ => ?_)
  refine mk_putR (ci := 8) fl_8_216 rfl (fun r hr => by cases hr; exact ⟨rfl, rfl⟩) rfl (by decide +kernel) (j := 0) (by decide +kernel) dX8_init_505 ?_
  refine ev_aload_n dX8_init_508 0 rfl (by decide) ?_
  refine ev_bipush (v := 49) dX8_init_509 rfl ?_
  refine mk_arr (k := 1) (nn := 49) (n := 107) (n' := 108) ⟨by decide +kernel, by decide +kernel, by decide +kernel⟩ (Or.inl ⟨rfl, rfl⟩) ac_int ⟨by decide, rfl, by decide⟩ dX8_init_511 rfl (by decide) (by decide) (fun _ => ?_)
  refine mk_putR (ci := 8) fl_8_219 rfl (fun r hr => by cases hr; exact ⟨rfl, rfl⟩) rfl (by decide +kernel) (j := 0) (by decide +kernel) dX8_init_513 ?_
  refine ev_aload_n dX8_init_516 0 rfl (by decide) ?_
  refine ev_bipush (v := 8) dX8_init_517 rfl ?_
  refine mk_arr (k := 1) (nn := 8) (n := 108) (n' := 109) ⟨by decide +kernel, by decide +kernel, by decide +kernel⟩ (Or.inl ⟨rfl, rfl⟩) ac_int ⟨by decide, rfl, by decide⟩ dX8_init_519 rfl (by decide) (by decide) (fun _ => ?_)
  refine mk_putR (ci := 8) fl_8_222 rfl (fun r hr => by cases hr; exact ⟨rfl, rfl⟩) rfl (by decide +kernel) (j := 0) (by decide +kernel) dX8_init_521 ?_
  refine ev_aload_n dX8_init_524 0 rfl (by decide) ?_
  refine ev_iconst (v := 4) dX8_init_525 rfl ?_
  refine mk_arr (k := 1) (nn := 4) (n := 109) (n' := 110) ⟨by decide +kernel, by decide +kernel, by decide +kernel⟩ (Or.inl ⟨rfl, rfl⟩) ac_int ⟨by decide, rfl, by decide⟩ dX8_init_526 rfl (by decide) (by decide) (fun _ => ?_)
  refine ev_dup dX8_init_528 rfl ?_
  refine ev_iconst (v := 0) dX8_init_529 rfl ?_
  refine ev_iconst (v := (-1)) dX8_init_530 rfl ?_
  refine mk_ist (m := 4) (j := 0) (by decide +kernel) (by decide +kernel) (vp_c ⟨rfl, rfl⟩) rfl dX8_init_531 ?_
  refine ev_dup dX8_init_532 rfl ?_
  refine ev_iconst (v := 1) dX8_init_533 rfl ?_
  refine ev_iconst (v := (-1)) dX8_init_534 rfl ?_
  refine mk_ist (m := 4) (j := 1) (by decide +kernel) (by decide +kernel) (vp_c ⟨rfl, rfl⟩) rfl dX8_init_535 ?_
  refine ev_dup dX8_init_536 rfl ?_
  refine ev_iconst (v := 2) dX8_init_537 rfl ?_
  refine ev_iconst (v := (-1)) dX8_init_538 rfl ?_
  refine mk_ist (m := 4) (j := 2) (by decide +kernel) (by decide +kernel) (vp_c ⟨rfl, rfl⟩) rfl dX8_init_539 ?_
  refine ev_dup dX8_init_540 rfl ?_
  refine ev_iconst (v := 3) dX8_init_541 rfl ?_
  refine ev_iconst (v := (-1)) dX8_init_542 rfl ?_
  refine mk_ist (m := 4) (j := 3) (by decide +kernel) (by decide +kernel) (vp_c ⟨rfl, rfl⟩) rfl dX8_init_543 ?_
  refine mk_putR (ci := 8) fl_8_225 rfl (fun r hr => by cases hr; exact ⟨rfl, rfl⟩) rfl (by decide +kernel) (j := 0) (by decide +kernel) dX8_init_544 ?_
  refine ev_aload_n dX8_init_547 0 rfl (by decide) ?_
  refine ev_iconst (v := 4) dX8_init_548 rfl ?_
  refine mk_arr (k := 1) (nn := 4) (n := 110) (n' := 111) ⟨by decide +kernel, by decide +kernel, by decide +kernel⟩ (Or.inl ⟨rfl, rfl⟩) ac_int ⟨by decide, rfl, by decide⟩ dX8_init_549 rfl (by decide) (by decide) (fun _ => ?_)
  refine mk_putR (ci := 8) fl_8_228 rfl (fun r hr => by cases hr; exact ⟨rfl, rfl⟩) rfl (by decide +kernel) (j := 0) (by decide +kernel) dX8_init_551 ?_
  refine ev_aload_n dX8_init_554 0 rfl (by decide) ?_
  refine ev_sipush (v := 160) dX8_init_555 rfl ?_
  refine mk_arr (k := 1) (nn := 160) (n := 111) (n' := 112) ⟨by decide +kernel, by decide +kernel, by decide +kernel⟩ (Or.inl ⟨rfl, rfl⟩) ac_int ⟨by decide, rfl, by decide⟩ dX8_init_558 rfl (by decide) (by decide) (fun _ => ?_)
  refine mk_putR (ci := 8) fl_8_231 rfl (fun r hr => by cases hr; exact ⟨rfl, rfl⟩) rfl (by decide +kernel) (j := 0) (by decide +kernel) dX8_init_560 ?_
  refine ev_aload_n dX8_init_563 0 rfl (by decide) ?_
  refine ev_bipush (v := 40) dX8_init_564 rfl ?_
  refine mk_arr (k := 1) (nn := 40) (n := 112) (n' := 113) ⟨by decide +kernel, by decide +kernel, by decide +kernel⟩ (Or.inl ⟨rfl, rfl⟩) ac_int ⟨by decide, rfl, by decide⟩ dX8_init_566 rfl (by decide) (by decide) (fun _ => ?_)
  refine mk_putR (ci := 8) fl_8_234 rfl (fun r hr => by cases hr; exact ⟨rfl, rfl⟩) rfl (by decide +kernel) (j := 0) (by decide +kernel) dX8_init_568 ?_
  refine ev_aload_n dX8_init_571 0 rfl (by decide) ?_
  refine mk_getR (ci := 8) (b := 93) fl_8_117 rfl (by decide +kernel) (by decide +kernel) dX8_init_572 ?_
  refine ev_iconst (v := 0) dX8_init_575 rfl ?_
  refine ev_iconst (v := 0) dX8_init_576 rfl ?_
  refine mk_ist (m := 2880) (j := 0) (by decide +kernel) (by decide +kernel) (vp_c ⟨rfl, rfl⟩) rfl dX8_init_577 ?_
  refine ev_aload_n dX8_init_578 0 rfl (by decide) ?_
  refine mk_getR (ci := 8) (b := 94) fl_8_165 rfl (by decide +kernel) (by decide +kernel) dX8_init_579 ?_
  refine ev_iconst (v := 0) dX8_init_582 rfl ?_
  refine ev_iconst (v := 1) dX8_init_583 rfl ?_
  refine mk_ist (m := 18) (j := 0) (by decide +kernel) (by decide +kernel) (vp_c ⟨rfl, rfl⟩) rfl dX8_init_584 ?_
  refine ev_aload_n dX8_init_585 0 rfl (by decide) ?_
  refine mk_getR (ci := 8) (b := 93) fl_8_117 rfl (by decide +kernel) (by decide +kernel) dX8_init_586 ?_
  refine ev_sipush (v := 160) dX8_init_589 rfl ?_
  refine ev_iconst (v := 0) dX8_init_592 rfl ?_
  refine mk_ist (m := 2880) (j := 160) (by decide +kernel) (by decide +kernel) (vp_c ⟨rfl, rfl⟩) rfl dX8_init_593 ?_
  refine ev_aload_n dX8_init_594 0 rfl (by decide) ?_
  refine mk_getR (ci := 8) (b := 94) fl_8_165 rfl (by decide +kernel) (by decide +kernel) dX8_init_595 ?_
  refine ev_iconst (v := 1) dX8_init_598 rfl ?_
  refine ev_iconst (v := 1) dX8_init_599 rfl ?_
  refine mk_ist (m := 18) (j := 1) (by decide +kernel) (by decide +kernel) (vp_c ⟨rfl, rfl⟩) rfl dX8_init_600 ?_
  refine ev_aload_n dX8_init_601 0 rfl (by decide) ?_
  refine mk_getR (ci := 8) (b := 93) fl_8_117 rfl (by decide +kernel) (by decide +kernel) dX8_init_602 ?_
  refine ev_sipush (v := 320) dX8_init_605 rfl ?_
  refine ev_iconst (v := 1) dX8_init_608 rfl ?_
  refine mk_ist (m := 2880) (j := 320) (by decide +kernel) (by decide +kernel) (vp_c ⟨rfl, rfl⟩) rfl dX8_init_609 ?_
  refine ev_aload_n dX8_init_610 0 rfl (by decide) ?_
  refine mk_getR (ci := 8) (b := 94) fl_8_165 rfl (by decide +kernel) (by decide +kernel) dX8_init_611 ?_
  refine ev_iconst (v := 2) dX8_init_614 rfl ?_
  refine ev_iconst (v := 1) dX8_init_615 rfl ?_
  refine mk_ist (m := 18) (j := 2) (by decide +kernel) (by decide +kernel) (vp_c ⟨rfl, rfl⟩) rfl dX8_init_616 ?_
  refine ev_aload_n dX8_init_617 0 rfl (by decide) ?_
  refine ev_iconst (v := 1) dX8_init_618 rfl ?_
  refine mk_putI (ci := 8) fl_8_181 ⟨rfl, rfl, rfl⟩ (fun r hr => by cases hr; rfl) (by decide +kernel) dX8_init_619 ?_
  refine ev_iconst (v := 0) dX8_init_622 rfl ?_
  refine ev_istore_n (lv' := [(0, .ref 82), (1, .int 0)]) dX8_init_623 (by decide) [1, 0] rfl ?_
  exact ev_st (SL_eq rfl (by decide +kernel) (by decide +kernel)) (ML_eq (by decide +kernel)) kk
theorem wm_in {G : GW} {K : Option Value → HS → Mem → Prop} {i : Nat} (hi : i < 7) (kk : EvW G mX8_init 2 113 5779 664 [(0, .ref 82), (1, .int (nI i))] [] (SL 5779 mLF mRF) (ML (wkE adM (7 * i + 7) ++ mEA)) K) : ∀ f j, j + f = 7 → EvW G mX8_init 2 113 5779 632 [(0, .ref 82), (1, .int (nI i)), (2, .int (nI j))] [] (SL 5779 mLF mRF) (ML (wkE adM (7 * i + j) ++ mEA)) K := by
  intro f
  induction f with
  | zero =>
    intro j hj
    obtain rfl : j = 7 := by omega
    refine ev_iload_n dX8_init_632 2 rfl ?_
    refine ev_bipush (v := nI 7) dX8_init_633 rfl ?_
    refine ev_icmp_ge (tgt := 664) dX8_init_635 rfl (fun _ => ?_) (fun c => absurd (nI_le (Nat.le_refl 7) (by omega)) c)
    exact EvW.less [0, 1] rfl kk
  | succ f ih =>
    intro j hj
    have hj7 : j < 7 := by omega
    obtain ⟨q1, q2⟩ := ix_7 hi hj7
    refine ev_iload_n dX8_init_632 2 rfl ?_
    refine ev_bipush (v := nI 7) dX8_init_633 rfl ?_
    refine ev_icmp_ge (tgt := 664) dX8_init_635 rfl (fun c => absurd c (nI_ge hj7 (by omega))) (fun _ => ?_)
    refine ev_aload_n dX8_init_638 0 rfl (by decide) ?_
    refine mk_getR (ci := 8) (b := 83) fl_8_14 rfl (by decide +kernel) (by decide +kernel) dX8_init_639 ?_
    refine ev_bipush (v := 7) dX8_init_642 rfl ?_
    refine ev_iload_n dX8_init_644 1 rfl ?_
    refine ev_imul dX8_init_645 ?_
    refine ev_iload_n dX8_init_646 2 rfl ?_
    refine ev_iadd dX8_init_647 ?_
    refine ev_bipush (v := 30) dX8_init_648 rfl ?_
    refine ev_iload_n dX8_init_650 1 rfl ?_
    refine ev_iload_n dX8_init_651 2 rfl ?_
    refine ev_isub dX8_init_652 ?_
    refine ev_abs ml_8_237 dX8_init_653 (Nat.le_of_ble_eq_true rfl) (by decide) ⟨by decide +kernel, by decide⟩ ?_
    refine ev_imul dX8_init_656 ?_
    refine mk_ist (m := 49) (j := 7 * i + j) (by decide +kernel) (by decide +kernel) q1 q2 dX8_init_657 ?_
    refine ev_iinc (v := nI (j + 1)) (lv' := [(0, .ref 82), (1, .int (nI i)), (2, .int (nI (j + 1)))]) dX8_init_658 2 rfl (nI_1 j) (by decide) [1, 2, 0] rfl ?_
    refine ev_goto (tgt := 632) dX8_init_661 rfl ?_
    have := ih (j + 1) (by omega)
    rw [wkE_succ adM hj7] at this
    exact this
theorem wm_out {G : GW} {K : Option Value → HS → Mem → Prop} (kk : EvW G mX8_init 2 113 5779 670 [(0, .ref 82)] [] (SL 5779 mLF mRF) (ML (wkE adM 49 ++ mEA)) K) : ∀ f i, i + f = 7 → EvW G mX8_init 2 113 5779 624 [(0, .ref 82), (1, .int (nI i))] [] (SL 5779 mLF mRF) (ML (wkE adM (7 * i) ++ mEA)) K := by
  intro f
  induction f with
  | zero =>
    intro i hi
    obtain rfl : i = 7 := by omega
    refine ev_iload_n dX8_init_624 1 rfl ?_
    refine ev_bipush (v := nI 7) dX8_init_625 rfl ?_
    refine ev_icmp_ge (tgt := 670) dX8_init_627 rfl (fun _ => ?_) (fun c => absurd (nI_le (Nat.le_refl 7) (by omega)) c)
    exact EvW.less [0] rfl kk
  | succ f ih =>
    intro i hi
    have hi7 : i < 7 := by omega
    refine ev_iload_n dX8_init_624 1 rfl ?_
    refine ev_bipush (v := nI 7) dX8_init_625 rfl ?_
    refine ev_icmp_ge (tgt := 670) dX8_init_627 rfl (fun c => absurd c (nI_ge hi7 (by omega))) (fun _ => ?_)
    refine ev_iconst (v := nI 0) dX8_init_630 rfl ?_
    refine ev_istore_n (lv' := [(0, .ref 82), (1, .int (nI i)), (2, .int (nI 0))]) dX8_init_631 (by decide) [1, 2, 0] rfl ?_
    refine wm_in hi7 ?_ 7 0 (by omega)
    refine ev_iinc (v := nI (i + 1)) (lv' := [(0, .ref 82), (1, .int (nI (i + 1)))]) dX8_init_664 1 rfl (nI_1 i) (by decide) [1, 0] rfl ?_
    refine ev_goto (tgt := 624) dX8_init_667 rfl ?_
    exact ih (i + 1) (by omega)
def mEF : List (Nat × Nat × Int32) := wkE adM 49 ++ mEA
theorem ct_X8_init {G : GW} : EvW G mX8_init 2 113 5779 0 [(0, .ref 82)] [] (SL 1900 mL0 xRS) (ML xES) (fun v S' μ' => v = none ∧ S' = SL 5779 mLF mRF ∧ μ' = ML mEF) :=
  mk_X8_A (wm_out (mk_return dX8_init_670 rfl rfl rfl rfl rfl) 7 0 (by omega))
