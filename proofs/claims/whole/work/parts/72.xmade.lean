/-! ===== the class is made ===== -/
section ST
variable {G : GW} {M : MK} {d N Z pc : Nat} {lv : List (Nat × Value)} {st : List Value} {S S' : HS} {μ μ' : Mem} {K : Option Value → HS → Mem → Prop}
theorem ev_st (hS : S = S') (hm : μ = μ') (kk : EvW G M d N Z pc lv st S' μ' K) : EvW G M d N Z pc lv st S μ K := by
  rw [hS, hm]
  exact kk
end ST
theorem SL_eq {z z' : Nat} {L L' : List (Nat × Nat)} {R R' : List (Nat × Nat × Nat)} (h1 : z = z') (h2 : L = L') (h3 : R = R') : SL z L R = SL z' L' R' := by rw [h1, h2, h3]
theorem ML_eq {E E' : List (Nat × Nat × Int32)} (h : E = E') : ML E = ML E' := by rw [h]
def wkE (ad : Nat → Nat → Nat × Nat) : Nat → List (Nat × Nat × Int32)
  | 0 => []
  | m + 1 => ((ad (m / 7) (m % 7)).1, (ad (m / 7) (m % 7)).2, 30 * iabs (nI (m / 7) - nI (m % 7))) :: wkE ad m
theorem wkE_succ (ad : Nat → Nat → Nat × Nat) {i j : Nat} (hj : j < 7) : wkE ad (7 * i + (j + 1)) = ((ad i j).1, (ad i j).2, 30 * iabs (nI i - nI j)) :: wkE ad (7 * i + j) := by
  show ((ad ((7 * i + j) / 7) ((7 * i + j) % 7)).1, (ad ((7 * i + j) / 7) ((7 * i + j) % 7)).2, 30 * iabs (nI ((7 * i + j) / 7) - nI ((7 * i + j) % 7))) :: wkE ad (7 * i + j) = _
  rw [show (7 * i + j) / 7 = i by omega, show (7 * i + j) % 7 = j by omega]
def adX (i j : Nat) : Nat × Nat := (12 + i, j)
def adM (i j : Nat) : Nat × Nat := (83, 7 * i + j)
def xLA : List (Nat × Nat) := [(17, 0), (4, 7), (1, 7), (1, 7), (1, 7), (1, 7), (1, 7), (1, 7), (1, 7), (5, 7), (1, 4), (1, 4), (6, 6), (12, 0), (15, 0), (1, 160), (13, 0), (1, 7), (1, 7), (1, 7), (2, 7), (1, 7), (11, 0), (4, 7), (1, 7), (1, 7), (1, 7), (1, 7), (1, 7), (1, 7), (1, 7), (1, 7), (7, 4)]
def xRA : List (Nat × Nat × Nat) := [(10, 8, 42), (10, 7, 32), (32, 1, 41), (32, 0, 33), (33, 0, 34), (33, 1, 35), (33, 2, 36), (33, 3, 37), (33, 4, 38), (33, 5, 39), (33, 6, 40), (10, 6, 26), (26, 4, 31), (26, 3, 30), (26, 2, 29), (26, 1, 28), (26, 0, 27), (10, 5, 23), (23, 0, 24), (24, 0, 25), (10, 4, 22), (10, 3, 21), (10, 2, 20), (10, 1, 19), (10, 0, 11), (11, 0, 12), (11, 1, 13), (11, 2, 14), (11, 3, 15), (11, 4, 16), (11, 5, 17), (11, 6, 18)]
def xEA : List (Nat × Nat × Int32) := [(10, 12, 0), (10, 11, 1), (10, 10, 0), (10, 9, 0), (32, 5, 0), (32, 4, 0), (32, 3, 0), (32, 2, 0), (26, 7, 0), (26, 6, 0), (26, 5, 0), (23, 2, (-1)), (23, 1, 22), (24, 4, 0), (24, 3, 0), (24, 2, 0), (24, 1, 0)]
theorem mk_X7_A {G : GW} {K : Option Value → HS → Mem → Prop} (kk : EvW G mX7_init 3 82 1851 111 [(0, .ref 10), (1, .int 0)] [] (SL 374 xLA xRA) (ML xEA) K) : EvW G mX7_init 3 82 1851 0 [(0, .ref 10)] [] (SL 13 [(17, 0)] []) (ML []) K := by
  refine ev_aload_n dX7_init_0 0 rfl (by decide) ?_
  refine mk_objInit (k := 16) ml_7_1 (by decide +kernel) dX7_init_1 (Nat.le_of_ble_eq_true rfl) (by decide) ?_
  refine ev_aload_n dX7_init_4 0 rfl (by decide) ?_
  refine ev_bipush (v := 7) dX7_init_5 rfl ?_
  refine ev_bipush (v := 7) dX7_init_7 rfl ?_
  refine mk_mul (n := 11) ⟨by decide +kernel, by decide +kernel, by decide +kernel⟩ kl_7_9 ⟨rfl, rfl⟩ dX7_init_9 (by decide) (by decide) ?_
  refine mk_putR (ci := 7) fl_7_11 rfl (fun r hr => by cases hr; exact ⟨rfl, rfl⟩) rfl (by decide +kernel) (j := 3) (by decide +kernel) dX7_init_13 ?_
  refine ev_aload_n dX7_init_16 0 rfl (by decide) ?_
  refine ev_bipush (v := 7) dX7_init_17 rfl ?_
  refine mk_anew (k := 5) (ci := 0) (nn := 7) (n := 19) (n' := 20) ⟨by decide +kernel, by decide +kernel, by decide +kernel⟩ rfl (by decide) kl_7_14.1 ⟨by decide, rfl, by decide⟩ dX7_init_19 rfl (by decide) (by decide) (fun _ => ?_)
  refine mk_putR (ci := 7) fl_7_16 rfl (fun r hr => by cases hr; exact ⟨rfl, rfl⟩) rfl (by decide +kernel) (j := 4) (by decide +kernel) dX7_init_22 ?_
  refine ev_aload_n dX7_init_25 0 rfl (by decide) ?_
  refine ev_iconst (v := 4) dX7_init_26 rfl ?_
  refine mk_arr (k := 1) (nn := 4) (n := 20) (n' := 21) ⟨by decide +kernel, by decide +kernel, by decide +kernel⟩ (Or.inl ⟨rfl, rfl⟩) ac_int ⟨by decide, rfl, by decide⟩ dX7_init_27 rfl (by decide) (by decide) (fun _ => ?_)
  refine mk_putR (ci := 7) fl_7_20 rfl (fun r hr => by cases hr; exact ⟨rfl, rfl⟩) rfl (by decide +kernel) (j := 0) (by decide +kernel) dX7_init_29 ?_
  refine ev_aload_n dX7_init_32 0 rfl (by decide) ?_
  refine ev_iconst (v := 4) dX7_init_33 rfl ?_
  refine mk_arr (k := 1) (nn := 4) (n := 21) (n' := 22) ⟨by decide +kernel, by decide +kernel, by decide +kernel⟩ (Or.inl ⟨rfl, rfl⟩) ac_int ⟨by decide, rfl, by decide⟩ dX7_init_34 rfl (by decide) (by decide) (fun _ => ?_)
  refine mk_putR (ci := 7) fl_7_24 rfl (fun r hr => by cases hr; exact ⟨rfl, rfl⟩) rfl (by decide +kernel) (j := 0) (by decide +kernel) dX7_init_36 ?_
  refine ev_aload_n dX7_init_39 0 rfl (by decide) ?_
  refine ev_bipush (v := 6) dX7_init_40 rfl ?_
  refine mk_anew (k := 6) (ci := 6) (nn := 6) (n := 22) (n' := 23) ⟨by decide +kernel, by decide +kernel, by decide +kernel⟩ rfl (by decide) kl_7_27.1 ⟨by decide, rfl, by decide⟩ dX7_init_42 rfl (by decide) (by decide) (fun _ => ?_)
  refine mk_putR (ci := 7) fl_7_29 rfl (fun r hr => by cases hr; exact ⟨rfl, rfl⟩) rfl (by decide +kernel) (j := 5) (by decide +kernel) dX7_init_45 ?_
  refine ev_aload_n dX7_init_48 0 rfl (by decide) ?_
  refine mk_new (ci := 2) (nf := 3) (n := 23) (n' := 24) ⟨by decide +kernel, by decide +kernel, by decide +kernel⟩ rfl rfl kl_7_33 dv_2 dX7_init_49 rfl (by decide) (by decide) (fun _ => ?_)
  refine ev_dup dX7_init_52 rfl ?_
  refine mk_callIN (k := 11) (N' := 26) (Z' := 258) ok_X2_init ⟨rfl, rfl⟩ vi_X2_init nw_7_35 (by decide +kernel) dX7_init_53 (Nat.le_of_ble_eq_true rfl) (by decide) (by decide) (ct_X2_init 23 24 93 _ _ _ ⟨by decide +kernel, by decide +kernel, by decide +kernel⟩ (by decide +kernel)) ⟨⟨by decide +kernel, by decide⟩, by decide, by decide⟩ ?_
  refine mk_putR (ci := 7) fl_7_36 rfl (fun r hr => by cases hr; exact ⟨rfl, rfl⟩) rfl (by decide +kernel) (j := 11) (by decide +kernel) dX7_init_56 ?_
  refine ev_aload_n dX7_init_59 0 rfl (by decide) ?_
  refine mk_new (ci := 3) (nf := 8) (n := 26) (n' := 27) ⟨by decide +kernel, by decide +kernel, by decide +kernel⟩ rfl rfl kl_7_40 dv_3 dX7_init_60 rfl (by decide) (by decide) (fun _ => ?_)
  refine ev_dup dX7_init_63 rfl ?_
  refine mk_callIN (k := 12) (N' := 32) (Z' := 301) ok_X3_init ⟨rfl, rfl⟩ vi_X3_init nw_7_42 (by decide +kernel) dX7_init_64 (Nat.le_of_ble_eq_true rfl) (by decide) (by decide) (ct_X3_init 26 27 266 _ _ _ ⟨by decide +kernel, by decide +kernel, by decide +kernel⟩ (by decide +kernel)) ⟨⟨by decide +kernel, by decide⟩, by decide, by decide⟩ ?_
  refine mk_putR (ci := 7) fl_7_43 rfl (fun r hr => by cases hr; exact ⟨rfl, rfl⟩) rfl (by decide +kernel) (j := 12) (by decide +kernel) dX7_init_67 ?_
  refine ev_aload_n dX7_init_70 0 rfl (by decide) ?_
  refine mk_new (ci := 1) (nf := 6) (n := 32) (n' := 33) ⟨by decide +kernel, by decide +kernel, by decide +kernel⟩ rfl rfl kl_7_47 dv_1 dX7_init_71 rfl (by decide) (by decide) (fun _ => ?_)
  refine ev_dup dX7_init_74 rfl ?_
  refine mk_callIN (k := 10) (N' := 42) (Z' := 370) ok_X1_init ⟨rfl, rfl⟩ vi_X1_init nw_7_49 (by decide +kernel) dX7_init_75 (Nat.le_of_ble_eq_true rfl) (by decide) (by decide) (ct_X1_init 32 33 307 _ _ _ ⟨by decide +kernel, by decide +kernel, by decide +kernel⟩ (by decide +kernel)) ⟨⟨by decide +kernel, by decide⟩, by decide, by decide⟩ ?_
  refine mk_putR (ci := 7) fl_7_50 rfl (fun r hr => by cases hr; exact ⟨rfl, rfl⟩) rfl (by decide +kernel) (j := 10) (by decide +kernel) dX7_init_78 ?_
  refine ev_aload_n dX7_init_81 0 rfl (by decide) ?_
  refine ev_iconst (v := 4) dX7_init_82 rfl ?_
  refine mk_anew (k := 7) (ci := 4) (nn := 4) (n := 42) (n' := 43) ⟨by decide +kernel, by decide +kernel, by decide +kernel⟩ rfl (by decide) kl_7_54.1 ⟨by decide, rfl, by decide⟩ dX7_init_83 rfl (by decide) (by decide) (fun _ => ?_)
  refine mk_putR (ci := 7) fl_7_56 rfl (fun r hr => by cases hr; exact ⟨rfl, rfl⟩) rfl (by decide +kernel) (j := 6) (by decide +kernel) dX7_init_86 ?_
  refine ev_aload_n dX7_init_89 0 rfl (by decide) ?_
  refine ev_iconst (v := 0) dX7_init_90 rfl ?_
  refine mk_putI (ci := 7) fl_7_60 ⟨rfl, rfl, rfl⟩ (fun r hr => by cases hr; rfl) (by decide +kernel) dX7_init_91 ?_
  refine ev_aload_n dX7_init_94 0 rfl (by decide) ?_
  refine ev_iconst (v := 0) dX7_init_95 rfl ?_
  refine mk_putI (ci := 7) fl_7_64 ⟨rfl, rfl, rfl⟩ (fun r hr => by cases hr; rfl) (by decide +kernel) dX7_init_96 ?_
  refine ev_aload_n dX7_init_99 0 rfl (by decide) ?_
  refine ev_iconst (v := 1) dX7_init_100 rfl ?_
  refine mk_putI (ci := 7) fl_7_67 ⟨rfl, rfl, rfl⟩ (fun r hr => by cases hr; rfl) (by decide +kernel) dX7_init_101 ?_
  refine ev_aload_n dX7_init_104 0 rfl (by decide) ?_
  refine ev_iconst (v := 0) dX7_init_105 rfl ?_
  refine mk_putI (ci := 7) fl_7_70 ⟨rfl, rfl, rfl⟩ (fun r hr => by cases hr; rfl) (by decide +kernel) dX7_init_106 ?_
  refine ev_iconst (v := 0) dX7_init_109 rfl ?_
  refine ev_istore_n (lv' := [(0, .ref 10), (1, .int 0)]) dX7_init_110 (by decide) [1, 0] rfl ?_
  exact ev_st (SL_eq rfl (by decide +kernel) (by decide +kernel)) (ML_eq (by decide +kernel)) kk
theorem wk_kd : ∀ i, i < 7 → kdS xLA (12 + i) = 1 ∧ lnS xLA (12 + i) = 7 ∧ rfS xRA 11 i = 12 + i := by decide +kernel
theorem wk_in {G : GW} {K : Option Value → HS → Mem → Prop} {i : Nat} (hi : i < 7) (kk : EvW G mX7_init 3 82 1851 148 [(0, .ref 10), (1, .int (nI i))] [] (SL 374 xLA xRA) (ML (wkE adX (7 * i + 7) ++ xEA)) K) : ∀ f j, j + f = 7 → EvW G mX7_init 3 82 1851 119 [(0, .ref 10), (1, .int (nI i)), (2, .int (nI j))] [] (SL 374 xLA xRA) (ML (wkE adX (7 * i + j) ++ xEA)) K := by
  intro f
  induction f with
  | zero =>
    intro j hj
    obtain rfl : j = 7 := by omega
    refine ev_iload_n dX7_init_119 2 rfl ?_
    refine ev_bipush (v := nI 7) dX7_init_120 rfl ?_
    refine ev_icmp_ge (tgt := 148) dX7_init_122 rfl (fun _ => ?_) (fun c => absurd (nI_le (Nat.le_refl 7) (by omega)) c)
    exact EvW.less [0, 1] rfl kk
  | succ f ih =>
    intro j hj
    have hj7 : j < 7 := by omega
    obtain ⟨k1, k2, k3⟩ := wk_kd i hi
    refine ev_iload_n dX7_init_119 2 rfl ?_
    refine ev_bipush (v := nI 7) dX7_init_120 rfl ?_
    refine ev_icmp_ge (tgt := 148) dX7_init_122 rfl (fun c => absurd c (nI_ge hj7 (by omega))) (fun _ => ?_)
    refine ev_aload_n dX7_init_125 0 rfl (by decide) ?_
    refine mk_getR (ci := 7) (b := 11) fl_7_11 rfl (by decide +kernel) (by decide +kernel) dX7_init_126 ?_
    refine ev_iload_n dX7_init_129 1 rfl ?_
    refine ev_aaload' (S := SL 374 xLA xRA) (k := 4) (n := 7) (b := 12 + i) (show kdS xLA 11 = 4 by decide +kernel) (by decide) (show lnS xLA 11 = 7 by decide +kernel) (vp_nI hi (by omega)) (by rw [ix_nI (by omega)]; exact k3) dX7_init_130 ?_
    refine ev_iload_n dX7_init_131 2 rfl ?_
    refine ev_bipush (v := 30) dX7_init_132 rfl ?_
    refine ev_iload_n dX7_init_134 1 rfl ?_
    refine ev_iload_n dX7_init_135 2 rfl ?_
    refine ev_isub dX7_init_136 ?_
    refine ev_abs ml_7_73 dX7_init_137 (Nat.le_of_ble_eq_true rfl) (by decide) ⟨by decide +kernel, by decide⟩ ?_
    refine ev_imul dX7_init_140 ?_
    refine mk_ist (m := 7) (j := j) k1 k2 (vp_nI hj7 (by omega)) (ix_nI (by omega)) dX7_init_141 ?_
    refine ev_iinc (v := nI (j + 1)) (lv' := [(0, .ref 10), (1, .int (nI i)), (2, .int (nI (j + 1)))]) dX7_init_142 2 rfl (nI_1 j) (by decide) [1, 2, 0] rfl ?_
    refine ev_goto (tgt := 119) dX7_init_145 rfl ?_
    have := ih (j + 1) (by omega)
    rw [wkE_succ adX hj7] at this
    exact this
theorem wk_out {G : GW} {K : Option Value → HS → Mem → Prop} (kk : EvW G mX7_init 3 82 1851 154 [(0, .ref 10)] [] (SL 374 xLA xRA) (ML (wkE adX 49 ++ xEA)) K) : ∀ f i, i + f = 7 → EvW G mX7_init 3 82 1851 111 [(0, .ref 10), (1, .int (nI i))] [] (SL 374 xLA xRA) (ML (wkE adX (7 * i) ++ xEA)) K := by
  intro f
  induction f with
  | zero =>
    intro i hi
    obtain rfl : i = 7 := by omega
    refine ev_iload_n dX7_init_111 1 rfl ?_
    refine ev_bipush (v := nI 7) dX7_init_112 rfl ?_
    refine ev_icmp_ge (tgt := 154) dX7_init_114 rfl (fun _ => ?_) (fun c => absurd (nI_le (Nat.le_refl 7) (by omega)) c)
    exact EvW.less [0] rfl kk
  | succ f ih =>
    intro i hi
    have hi7 : i < 7 := by omega
    refine ev_iload_n dX7_init_111 1 rfl ?_
    refine ev_bipush (v := nI 7) dX7_init_112 rfl ?_
    refine ev_icmp_ge (tgt := 154) dX7_init_114 rfl (fun c => absurd c (nI_ge hi7 (by omega))) (fun _ => ?_)
    refine ev_iconst (v := nI 0) dX7_init_117 rfl ?_
    refine ev_istore_n (lv' := [(0, .ref 10), (1, .int (nI i)), (2, .int (nI 0))]) dX7_init_118 (by decide) [1, 2, 0] rfl ?_
    refine wk_in hi7 ?_ 7 0 (by omega)
    refine ev_iinc (v := nI (i + 1)) (lv' := [(0, .ref 10), (1, .int (nI (i + 1)))]) dX7_init_148 1 rfl (nI_1 i) (by decide) [1, 0] rfl ?_
    refine ev_goto (tgt := 111) dX7_init_151 rfl ?_
    exact ih (i + 1) (by omega)
def xEB : List (Nat × Nat × Int32) := wkE adX 49 ++ xEA
def xLH : List (Nat × Nat) := [(17, 0), (4, 7), (1, 7), (1, 7), (1, 7), (1, 7), (1, 7), (1, 7), (1, 7), (5, 7), (1, 4), (1, 4), (6, 6), (12, 0), (15, 0), (1, 160), (13, 0), (1, 7), (1, 7), (1, 7), (2, 7), (1, 7), (11, 0), (4, 7), (1, 7), (1, 7), (1, 7), (1, 7), (1, 7), (1, 7), (1, 7), (1, 7), (7, 4), (10, 0), (10, 0), (10, 0), (10, 0), (10, 0), (10, 0), (10, 0)]
def xRH : List (Nat × Nat × Nat) := [(19, 6, 49), (19, 5, 48), (19, 4, 47), (19, 3, 46), (19, 2, 45), (19, 1, 44), (19, 0, 43), (10, 8, 42), (10, 7, 32), (32, 1, 41), (32, 0, 33), (33, 0, 34), (33, 1, 35), (33, 2, 36), (33, 3, 37), (33, 4, 38), (33, 5, 39), (33, 6, 40), (10, 6, 26), (26, 4, 31), (26, 3, 30), (26, 2, 29), (26, 1, 28), (26, 0, 27), (10, 5, 23), (23, 0, 24), (24, 0, 25), (10, 4, 22), (10, 3, 21), (10, 2, 20), (10, 1, 19), (10, 0, 11), (11, 0, 12), (11, 1, 13), (11, 2, 14), (11, 3, 15), (11, 4, 16), (11, 5, 17), (11, 6, 18)]
def xEH : List (Nat × Nat × Int32) := [(49, 8, 0), (49, 7, 1), (49, 6, 1), (49, 5, 0), (49, 4, 0), (49, 3, 1), (49, 2, 1), (49, 1, 0), (49, 0, 0), (48, 8, 0), (48, 7, 1), (48, 6, 1), (48, 5, 0), (48, 4, 0), (48, 3, 1), (48, 2, 1), (48, 1, 0), (48, 0, 0), (47, 8, 0), (47, 7, 1), (47, 6, 1), (47, 5, 0), (47, 4, 0), (47, 3, 1), (47, 2, 1), (47, 1, 0), (47, 0, 0), (46, 8, 0), (46, 7, 1), (46, 6, 1), (46, 5, 0), (46, 4, 0), (46, 3, 1), (46, 2, 1), (46, 1, 0), (46, 0, 0), (45, 8, 0), (45, 7, 1), (45, 6, 1), (45, 5, 0), (45, 4, 0), (45, 3, 1), (45, 2, 1), (45, 1, 0), (45, 0, 0), (44, 8, 0), (44, 7, 1), (44, 6, 1), (44, 5, 0), (44, 4, 0), (44, 3, 1), (44, 2, 1), (44, 1, 0), (44, 0, 0), (43, 8, 0), (43, 7, 1), (43, 6, 1), (43, 5, 0), (43, 4, 0), (43, 3, 1), (43, 2, 1), (43, 1, 0), (43, 0, 0)] ++ xEB
theorem mk_X7_H {G : GW} {K : Option Value → HS → Mem → Prop} (kk : EvW G mX7_init 3 82 1851 181 [(0, .ref 10), (1, .int 7)] [] (SL 437 xLH xRH) (ML xEH) K) : EvW G mX7_init 3 82 1851 154 [(0, .ref 10)] [] (SL 374 xLA xRA) (ML xEB) K := by
  refine ev_iconst (v := 0) dX7_init_154 rfl ?_
  refine ev_istore_n (lv' := [(0, .ref 10), (1, .int 0)]) dX7_init_155 (by decide) [1, 0] rfl ?_
  refine ev_iload_n dX7_init_156 1 rfl ?_
  refine ev_bipush (v := 7) dX7_init_157 rfl ?_
  refine ev_icmp_ge (tgt := 181) dX7_init_159 rfl (fun c1 => absurd c1 (by decide)) (fun _ => ?_)
  refine ev_aload_n dX7_init_162 0 rfl (by decide) ?_
  refine mk_getR (ci := 7) (b := 19) fl_7_16 rfl (by decide +kernel) (by decide +kernel) dX7_init_163 ?_
  refine ev_iload_n dX7_init_166 1 rfl ?_
  refine mk_new (ci := 0) (nf := 9) (n := 43) (n' := 44) ⟨by decide +kernel, by decide +kernel, by decide +kernel⟩ rfl rfl kl_7_14 dv_0 dX7_init_167 rfl (by decide) (by decide) (fun _ => ?_)
  refine ev_dup dX7_init_170 rfl ?_
  refine mk_callIN (k := 9) (N' := 44) (Z' := 383) ok_X0_init ⟨rfl, rfl⟩ vi_X0_init nw_7_79 (by decide +kernel) dX7_init_171 (Nat.le_of_ble_eq_true rfl) (by decide) (by decide) (ct_X0_init 43 44 383 _ _ _ ⟨by decide +kernel, by decide +kernel, by decide +kernel⟩ (by decide +kernel)) ⟨⟨by decide +kernel, by decide⟩, by decide, by decide⟩ ?_
  refine mk_ast (k := 5) (ci := 0) (m := 7) (j := 0) (by decide +kernel) (by decide +kernel) (by decide) (by decide +kernel) (vp_c ⟨rfl, rfl⟩) rfl dX7_init_174 ?_
  refine ev_iinc (v := 1) (lv' := [(0, .ref 10), (1, .int 1)]) dX7_init_175 1 rfl rfl (by decide) [1, 0] rfl ?_
  refine ev_goto (tgt := 156) dX7_init_178 rfl ?_
  refine ev_iload_n dX7_init_156 1 rfl ?_
  refine ev_bipush (v := 7) dX7_init_157 rfl ?_
  refine ev_icmp_ge (tgt := 181) dX7_init_159 rfl (fun c2 => absurd c2 (by decide)) (fun _ => ?_)
  refine ev_aload_n dX7_init_162 0 rfl (by decide) ?_
  refine mk_getR (ci := 7) (b := 19) fl_7_16 rfl (by decide +kernel) (by decide +kernel) dX7_init_163 ?_
  refine ev_iload_n dX7_init_166 1 rfl ?_
  refine mk_new (ci := 0) (nf := 9) (n := 44) (n' := 45) ⟨by decide +kernel, by decide +kernel, by decide +kernel⟩ rfl rfl kl_7_14 dv_0 dX7_init_167 rfl (by decide) (by decide) (fun _ => ?_)
  refine ev_dup dX7_init_170 rfl ?_
  refine mk_callIN (k := 9) (N' := 45) (Z' := 392) ok_X0_init ⟨rfl, rfl⟩ vi_X0_init nw_7_79 (by decide +kernel) dX7_init_171 (Nat.le_of_ble_eq_true rfl) (by decide) (by decide) (ct_X0_init 44 45 392 _ _ _ ⟨by decide +kernel, by decide +kernel, by decide +kernel⟩ (by decide +kernel)) ⟨⟨by decide +kernel, by decide⟩, by decide, by decide⟩ ?_
  refine mk_ast (k := 5) (ci := 0) (m := 7) (j := 1) (by decide +kernel) (by decide +kernel) (by decide) (by decide +kernel) (vp_c ⟨rfl, rfl⟩) rfl dX7_init_174 ?_
  refine ev_iinc (v := 2) (lv' := [(0, .ref 10), (1, .int 2)]) dX7_init_175 1 rfl rfl (by decide) [1, 0] rfl ?_
  refine ev_goto (tgt := 156) dX7_init_178 rfl ?_
  refine ev_iload_n dX7_init_156 1 rfl ?_
  refine ev_bipush (v := 7) dX7_init_157 rfl ?_
  refine ev_icmp_ge (tgt := 181) dX7_init_159 rfl (fun c3 => absurd c3 (by decide)) (fun _ => ?_)
  refine ev_aload_n dX7_init_162 0 rfl (by decide) ?_
  refine mk_getR (ci := 7) (b := 19) fl_7_16 rfl (by decide +kernel) (by decide +kernel) dX7_init_163 ?_
  refine ev_iload_n dX7_init_166 1 rfl ?_
  refine mk_new (ci := 0) (nf := 9) (n := 45) (n' := 46) ⟨by decide +kernel, by decide +kernel, by decide +kernel⟩ rfl rfl kl_7_14 dv_0 dX7_init_167 rfl (by decide) (by decide) (fun _ => ?_)
  refine ev_dup dX7_init_170 rfl ?_
  refine mk_callIN (k := 9) (N' := 46) (Z' := 401) ok_X0_init ⟨rfl, rfl⟩ vi_X0_init nw_7_79 (by decide +kernel) dX7_init_171 (Nat.le_of_ble_eq_true rfl) (by decide) (by decide) (ct_X0_init 45 46 401 _ _ _ ⟨by decide +kernel, by decide +kernel, by decide +kernel⟩ (by decide +kernel)) ⟨⟨by decide +kernel, by decide⟩, by decide, by decide⟩ ?_
  refine mk_ast (k := 5) (ci := 0) (m := 7) (j := 2) (by decide +kernel) (by decide +kernel) (by decide) (by decide +kernel) (vp_c ⟨rfl, rfl⟩) rfl dX7_init_174 ?_
  refine ev_iinc (v := 3) (lv' := [(0, .ref 10), (1, .int 3)]) dX7_init_175 1 rfl rfl (by decide) [1, 0] rfl ?_
  refine ev_goto (tgt := 156) dX7_init_178 rfl ?_
  refine ev_iload_n dX7_init_156 1 rfl ?_
  refine ev_bipush (v := 7) dX7_init_157 rfl ?_
  refine ev_icmp_ge (tgt := 181) dX7_init_159 rfl (fun c4 => absurd c4 (by decide)) (fun _ => ?_)
  refine ev_aload_n dX7_init_162 0 rfl (by decide) ?_
  refine mk_getR (ci := 7) (b := 19) fl_7_16 rfl (by decide +kernel) (by decide +kernel) dX7_init_163 ?_
  refine ev_iload_n dX7_init_166 1 rfl ?_
  refine mk_new (ci := 0) (nf := 9) (n := 46) (n' := 47) ⟨by decide +kernel, by decide +kernel, by decide +kernel⟩ rfl rfl kl_7_14 dv_0 dX7_init_167 rfl (by decide) (by decide) (fun _ => ?_)
  refine ev_dup dX7_init_170 rfl ?_
  refine mk_callIN (k := 9) (N' := 47) (Z' := 410) ok_X0_init ⟨rfl, rfl⟩ vi_X0_init nw_7_79 (by decide +kernel) dX7_init_171 (Nat.le_of_ble_eq_true rfl) (by decide) (by decide) (ct_X0_init 46 47 410 _ _ _ ⟨by decide +kernel, by decide +kernel, by decide +kernel⟩ (by decide +kernel)) ⟨⟨by decide +kernel, by decide⟩, by decide, by decide⟩ ?_
  refine mk_ast (k := 5) (ci := 0) (m := 7) (j := 3) (by decide +kernel) (by decide +kernel) (by decide) (by decide +kernel) (vp_c ⟨rfl, rfl⟩) rfl dX7_init_174 ?_
  refine ev_iinc (v := 4) (lv' := [(0, .ref 10), (1, .int 4)]) dX7_init_175 1 rfl rfl (by decide) [1, 0] rfl ?_
  refine ev_goto (tgt := 156) dX7_init_178 rfl ?_
  refine ev_iload_n dX7_init_156 1 rfl ?_
  refine ev_bipush (v := 7) dX7_init_157 rfl ?_
  refine ev_icmp_ge (tgt := 181) dX7_init_159 rfl (fun c5 => absurd c5 (by decide)) (fun _ => ?_)
  refine ev_aload_n dX7_init_162 0 rfl (by decide) ?_
  refine mk_getR (ci := 7) (b := 19) fl_7_16 rfl (by decide +kernel) (by decide +kernel) dX7_init_163 ?_
  refine ev_iload_n dX7_init_166 1 rfl ?_
  refine mk_new (ci := 0) (nf := 9) (n := 47) (n' := 48) ⟨by decide +kernel, by decide +kernel, by decide +kernel⟩ rfl rfl kl_7_14 dv_0 dX7_init_167 rfl (by decide) (by decide) (fun _ => ?_)
  refine ev_dup dX7_init_170 rfl ?_
  refine mk_callIN (k := 9) (N' := 48) (Z' := 419) ok_X0_init ⟨rfl, rfl⟩ vi_X0_init nw_7_79 (by decide +kernel) dX7_init_171 (Nat.le_of_ble_eq_true rfl) (by decide) (by decide) (ct_X0_init 47 48 419 _ _ _ ⟨by decide +kernel, by decide +kernel, by decide +kernel⟩ (by decide +kernel)) ⟨⟨by decide +kernel, by decide⟩, by decide, by decide⟩ ?_
  refine mk_ast (k := 5) (ci := 0) (m := 7) (j := 4) (by decide +kernel) (by decide +kernel) (by decide) (by decide +kernel) (vp_c ⟨rfl, rfl⟩) rfl dX7_init_174 ?_
  refine ev_iinc (v := 5) (lv' := [(0, .ref 10), (1, .int 5)]) dX7_init_175 1 rfl rfl (by decide) [1, 0] rfl ?_
  refine ev_goto (tgt := 156) dX7_init_178 rfl ?_
  refine ev_iload_n dX7_init_156 1 rfl ?_
  refine ev_bipush (v := 7) dX7_init_157 rfl ?_
  refine ev_icmp_ge (tgt := 181) dX7_init_159 rfl (fun c6 => absurd c6 (by decide)) (fun _ => ?_)
  refine ev_aload_n dX7_init_162 0 rfl (by decide) ?_
  refine mk_getR (ci := 7) (b := 19) fl_7_16 rfl (by decide +kernel) (by decide +kernel) dX7_init_163 ?_
  refine ev_iload_n dX7_init_166 1 rfl ?_
  refine mk_new (ci := 0) (nf := 9) (n := 48) (n' := 49) ⟨by decide +kernel, by decide +kernel, by decide +kernel⟩ rfl rfl kl_7_14 dv_0 dX7_init_167 rfl (by decide) (by decide) (fun _ => ?_)
  refine ev_dup dX7_init_170 rfl ?_
  refine mk_callIN (k := 9) (N' := 49) (Z' := 428) ok_X0_init ⟨rfl, rfl⟩ vi_X0_init nw_7_79 (by decide +kernel) dX7_init_171 (Nat.le_of_ble_eq_true rfl) (by decide) (by decide) (ct_X0_init 48 49 428 _ _ _ ⟨by decide +kernel, by decide +kernel, by decide +kernel⟩ (by decide +kernel)) ⟨⟨by decide +kernel, by decide⟩, by decide, by decide⟩ ?_
  refine mk_ast (k := 5) (ci := 0) (m := 7) (j := 5) (by decide +kernel) (by decide +kernel) (by decide) (by decide +kernel) (vp_c ⟨rfl, rfl⟩) rfl dX7_init_174 ?_
  refine ev_iinc (v := 6) (lv' := [(0, .ref 10), (1, .int 6)]) dX7_init_175 1 rfl rfl (by decide) [1, 0] rfl ?_
  refine ev_goto (tgt := 156) dX7_init_178 rfl ?_
  refine ev_iload_n dX7_init_156 1 rfl ?_
  refine ev_bipush (v := 7) dX7_init_157 rfl ?_
  refine ev_icmp_ge (tgt := 181) dX7_init_159 rfl (fun c7 => absurd c7 (by decide)) (fun _ => ?_)
  refine ev_aload_n dX7_init_162 0 rfl (by decide) ?_
  refine mk_getR (ci := 7) (b := 19) fl_7_16 rfl (by decide +kernel) (by decide +kernel) dX7_init_163 ?_
  refine ev_iload_n dX7_init_166 1 rfl ?_
  refine mk_new (ci := 0) (nf := 9) (n := 49) (n' := 50) ⟨by decide +kernel, by decide +kernel, by decide +kernel⟩ rfl rfl kl_7_14 dv_0 dX7_init_167 rfl (by decide) (by decide) (fun _ => ?_)
  refine ev_dup dX7_init_170 rfl ?_
  refine mk_callIN (k := 9) (N' := 50) (Z' := 437) ok_X0_init ⟨rfl, rfl⟩ vi_X0_init nw_7_79 (by decide +kernel) dX7_init_171 (Nat.le_of_ble_eq_true rfl) (by decide) (by decide) (ct_X0_init 49 50 437 _ _ _ ⟨by decide +kernel, by decide +kernel, by decide +kernel⟩ (by decide +kernel)) ⟨⟨by decide +kernel, by decide⟩, by decide, by decide⟩ ?_
  refine mk_ast (k := 5) (ci := 0) (m := 7) (j := 6) (by decide +kernel) (by decide +kernel) (by decide) (by decide +kernel) (vp_c ⟨rfl, rfl⟩) rfl dX7_init_174 ?_
  refine ev_iinc (v := 7) (lv' := [(0, .ref 10), (1, .int 7)]) dX7_init_175 1 rfl rfl (by decide) [1, 0] rfl ?_
  refine ev_goto (tgt := 156) dX7_init_178 rfl ?_
  refine ev_iload_n dX7_init_156 1 rfl ?_
  refine ev_bipush (v := 7) dX7_init_157 rfl ?_
  refine ev_icmp_ge (tgt := 181) dX7_init_159 rfl (fun _ => ?_) (fun c8 => absurd (by decide) c8)
  exact ev_st (SL_eq rfl (by decide +kernel) (by decide +kernel)) (ML_eq (by decide +kernel)) kk
def xLT : List (Nat × Nat) := [(17, 0), (4, 7), (1, 7), (1, 7), (1, 7), (1, 7), (1, 7), (1, 7), (1, 7), (5, 7), (1, 4), (1, 4), (6, 6), (12, 0), (15, 0), (1, 160), (13, 0), (1, 7), (1, 7), (1, 7), (2, 7), (1, 7), (11, 0), (4, 7), (1, 7), (1, 7), (1, 7), (1, 7), (1, 7), (1, 7), (1, 7), (1, 7), (7, 4), (10, 0), (10, 0), (10, 0), (10, 0), (10, 0), (10, 0), (10, 0), (16, 0), (1, 160), (1, 3), (1, 40), (16, 0), (1, 160), (1, 3), (1, 40), (16, 0), (1, 160), (1, 3), (1, 40), (16, 0), (1, 160), (1, 3), (1, 40), (16, 0), (1, 160), (1, 3), (1, 40), (16, 0), (1, 160), (1, 3), (1, 40)]
def xRT : List (Nat × Nat × Nat) := [(22, 5, 70), (70, 2, 73), (70, 1, 72), (70, 0, 71), (22, 4, 66), (66, 2, 69), (66, 1, 68), (66, 0, 67), (22, 3, 62), (62, 2, 65), (62, 1, 64), (62, 0, 63), (22, 2, 58), (58, 2, 61), (58, 1, 60), (58, 0, 59), (22, 1, 54), (54, 2, 57), (54, 1, 56), (54, 0, 55), (22, 0, 50), (50, 2, 53), (50, 1, 52), (50, 0, 51), (19, 6, 49), (19, 5, 48), (19, 4, 47), (19, 3, 46), (19, 2, 45), (19, 1, 44), (19, 0, 43), (10, 8, 42), (10, 7, 32), (32, 1, 41), (32, 0, 33), (33, 0, 34), (33, 1, 35), (33, 2, 36), (33, 3, 37), (33, 4, 38), (33, 5, 39), (33, 6, 40), (10, 6, 26), (26, 4, 31), (26, 3, 30), (26, 2, 29), (26, 1, 28), (26, 0, 27), (10, 5, 23), (23, 0, 24), (24, 0, 25), (10, 4, 22), (10, 3, 21), (10, 2, 20), (10, 1, 19), (10, 0, 11), (11, 0, 12), (11, 1, 13), (11, 2, 14), (11, 3, 15), (11, 4, 16), (11, 5, 17), (11, 6, 18)]
def xET : List (Nat × Nat × Int32) := [(72, 2, 3), (72, 1, 2), (72, 0, 1), (71, 2, 7), (71, 1, 6), (71, 0, 6), (70, 3, 3), (68, 2, 3), (68, 1, 2), (68, 0, 1), (67, 2, 7), (67, 1, 6), (67, 0, 6), (66, 3, 3), (64, 2, 3), (64, 1, 2), (64, 0, 1), (63, 2, 7), (63, 1, 6), (63, 0, 6), (62, 3, 3), (60, 2, 3), (60, 1, 2), (60, 0, 1), (59, 2, 7), (59, 1, 6), (59, 0, 6), (58, 3, 3), (56, 2, 3), (56, 1, 2), (56, 0, 1), (55, 2, 7), (55, 1, 6), (55, 0, 6), (54, 3, 3), (52, 2, 3), (52, 1, 2), (52, 0, 1), (51, 2, 7), (51, 1, 6), (51, 0, 6), (50, 3, 3)] ++ xEH
theorem mk_X7_T {G : GW} {K : Option Value → HS → Mem → Prop} (kk : EvW G mX7_init 3 82 1851 208 [(0, .ref 10), (1, .int 6)] [] (SL 1679 xLT xRT) (ML xET) K) : EvW G mX7_init 3 82 1851 181 [(0, .ref 10), (1, .int 7)] [] (SL 437 xLH xRH) (ML xEH) K := by
  refine EvW.less [0] (lv' := [(0, .ref 10)]) rfl ?_
  refine ev_iconst (v := 0) dX7_init_181 rfl ?_
  refine ev_istore_n (lv' := [(0, .ref 10), (1, .int 0)]) dX7_init_182 (by decide) [1, 0] rfl ?_
  refine ev_iload_n dX7_init_183 1 rfl ?_
  refine ev_bipush (v := 6) dX7_init_184 rfl ?_
  refine ev_icmp_ge (tgt := 208) dX7_init_186 rfl (fun c1 => absurd c1 (by decide)) (fun _ => ?_)
  refine ev_aload_n dX7_init_189 0 rfl (by decide) ?_
  refine mk_getR (ci := 7) (b := 22) fl_7_29 rfl (by decide +kernel) (by decide +kernel) dX7_init_190 ?_
  refine ev_iload_n dX7_init_193 1 rfl ?_
  refine mk_new (ci := 6) (nf := 4) (n := 50) (n' := 51) ⟨by decide +kernel, by decide +kernel, by decide +kernel⟩ rfl rfl kl_7_27 dv_6 dX7_init_194 rfl (by decide) (by decide) (fun _ => ?_)
  refine ev_dup dX7_init_197 rfl ?_
  refine mk_callI (k := 15) (N' := 54) (Z' := 644) ok_X6_init ⟨rfl, rfl⟩ vi_X6_init ml_7_80 (by decide +kernel) dX7_init_198 (Nat.le_of_ble_eq_true rfl) (by decide) (by decide) (ct_X6_init 50 51 441 _ _ _ ⟨by decide +kernel, by decide +kernel, by decide +kernel⟩ (by decide +kernel)) ⟨⟨by decide +kernel, by decide⟩, by decide, by decide⟩ ?_
  refine mk_ast (k := 6) (ci := 6) (m := 6) (j := 0) (by decide +kernel) (by decide +kernel) (by decide) (by decide +kernel) (vp_c ⟨rfl, rfl⟩) rfl dX7_init_201 ?_
  refine ev_iinc (v := 1) (lv' := [(0, .ref 10), (1, .int 1)]) dX7_init_202 1 rfl rfl (by decide) [1, 0] rfl ?_
  refine ev_goto (tgt := 183) dX7_init_205 rfl ?_
  refine ev_iload_n dX7_init_183 1 rfl ?_
  refine ev_bipush (v := 6) dX7_init_184 rfl ?_
  refine ev_icmp_ge (tgt := 208) dX7_init_186 rfl (fun c2 => absurd c2 (by decide)) (fun _ => ?_)
  refine ev_aload_n dX7_init_189 0 rfl (by decide) ?_
  refine mk_getR (ci := 7) (b := 22) fl_7_29 rfl (by decide +kernel) (by decide +kernel) dX7_init_190 ?_
  refine ev_iload_n dX7_init_193 1 rfl ?_
  refine mk_new (ci := 6) (nf := 4) (n := 54) (n' := 55) ⟨by decide +kernel, by decide +kernel, by decide +kernel⟩ rfl rfl kl_7_27 dv_6 dX7_init_194 rfl (by decide) (by decide) (fun _ => ?_)
  refine ev_dup dX7_init_197 rfl ?_
  refine mk_callI (k := 15) (N' := 58) (Z' := 851) ok_X6_init ⟨rfl, rfl⟩ vi_X6_init ml_7_80 (by decide +kernel) dX7_init_198 (Nat.le_of_ble_eq_true rfl) (by decide) (by decide) (ct_X6_init 54 55 648 _ _ _ ⟨by decide +kernel, by decide +kernel, by decide +kernel⟩ (by decide +kernel)) ⟨⟨by decide +kernel, by decide⟩, by decide, by decide⟩ ?_
  refine mk_ast (k := 6) (ci := 6) (m := 6) (j := 1) (by decide +kernel) (by decide +kernel) (by decide) (by decide +kernel) (vp_c ⟨rfl, rfl⟩) rfl dX7_init_201 ?_
  refine ev_iinc (v := 2) (lv' := [(0, .ref 10), (1, .int 2)]) dX7_init_202 1 rfl rfl (by decide) [1, 0] rfl ?_
  refine ev_goto (tgt := 183) dX7_init_205 rfl ?_
  refine ev_iload_n dX7_init_183 1 rfl ?_
  refine ev_bipush (v := 6) dX7_init_184 rfl ?_
  refine ev_icmp_ge (tgt := 208) dX7_init_186 rfl (fun c3 => absurd c3 (by decide)) (fun _ => ?_)
  refine ev_aload_n dX7_init_189 0 rfl (by decide) ?_
  refine mk_getR (ci := 7) (b := 22) fl_7_29 rfl (by decide +kernel) (by decide +kernel) dX7_init_190 ?_
  refine ev_iload_n dX7_init_193 1 rfl ?_
  refine mk_new (ci := 6) (nf := 4) (n := 58) (n' := 59) ⟨by decide +kernel, by decide +kernel, by decide +kernel⟩ rfl rfl kl_7_27 dv_6 dX7_init_194 rfl (by decide) (by decide) (fun _ => ?_)
  refine ev_dup dX7_init_197 rfl ?_
  refine mk_callI (k := 15) (N' := 62) (Z' := 1058) ok_X6_init ⟨rfl, rfl⟩ vi_X6_init ml_7_80 (by decide +kernel) dX7_init_198 (Nat.le_of_ble_eq_true rfl) (by decide) (by decide) (ct_X6_init 58 59 855 _ _ _ ⟨by decide +kernel, by decide +kernel, by decide +kernel⟩ (by decide +kernel)) ⟨⟨by decide +kernel, by decide⟩, by decide, by decide⟩ ?_
  refine mk_ast (k := 6) (ci := 6) (m := 6) (j := 2) (by decide +kernel) (by decide +kernel) (by decide) (by decide +kernel) (vp_c ⟨rfl, rfl⟩) rfl dX7_init_201 ?_
  refine ev_iinc (v := 3) (lv' := [(0, .ref 10), (1, .int 3)]) dX7_init_202 1 rfl rfl (by decide) [1, 0] rfl ?_
  refine ev_goto (tgt := 183) dX7_init_205 rfl ?_
  refine ev_iload_n dX7_init_183 1 rfl ?_
  refine ev_bipush (v := 6) dX7_init_184 rfl ?_
  refine ev_icmp_ge (tgt := 208) dX7_init_186 rfl (fun c4 => absurd c4 (by decide)) (fun _ => ?_)
  refine ev_aload_n dX7_init_189 0 rfl (by decide) ?_
  refine mk_getR (ci := 7) (b := 22) fl_7_29 rfl (by decide +kernel) (by decide +kernel) dX7_init_190 ?_
  refine ev_iload_n dX7_init_193 1 rfl ?_
  refine mk_new (ci := 6) (nf := 4) (n := 62) (n' := 63) ⟨by decide +kernel, by decide +kernel, by decide +kernel⟩ rfl rfl kl_7_27 dv_6 dX7_init_194 rfl (by decide) (by decide) (fun _ => ?_)
  refine ev_dup dX7_init_197 rfl ?_
  refine mk_callI (k := 15) (N' := 66) (Z' := 1265) ok_X6_init ⟨rfl, rfl⟩ vi_X6_init ml_7_80 (by decide +kernel) dX7_init_198 (Nat.le_of_ble_eq_true rfl) (by decide) (by decide) (ct_X6_init 62 63 1062 _ _ _ ⟨by decide +kernel, by decide +kernel, by decide +kernel⟩ (by decide +kernel)) ⟨⟨by decide +kernel, by decide⟩, by decide, by decide⟩ ?_
  refine mk_ast (k := 6) (ci := 6) (m := 6) (j := 3) (by decide +kernel) (by decide +kernel) (by decide) (by decide +kernel) (vp_c ⟨rfl, rfl⟩) rfl dX7_init_201 ?_
  refine ev_iinc (v := 4) (lv' := [(0, .ref 10), (1, .int 4)]) dX7_init_202 1 rfl rfl (by decide) [1, 0] rfl ?_
  refine ev_goto (tgt := 183) dX7_init_205 rfl ?_
  refine ev_iload_n dX7_init_183 1 rfl ?_
  refine ev_bipush (v := 6) dX7_init_184 rfl ?_
  refine ev_icmp_ge (tgt := 208) dX7_init_186 rfl (fun c5 => absurd c5 (by decide)) (fun _ => ?_)
  refine ev_aload_n dX7_init_189 0 rfl (by decide) ?_
  refine mk_getR (ci := 7) (b := 22) fl_7_29 rfl (by decide +kernel) (by decide +kernel) dX7_init_190 ?_
  refine ev_iload_n dX7_init_193 1 rfl ?_
  refine mk_new (ci := 6) (nf := 4) (n := 66) (n' := 67) ⟨by decide +kernel, by decide +kernel, by decide +kernel⟩ rfl rfl kl_7_27 dv_6 dX7_init_194 rfl (by decide) (by decide) (fun _ => ?_)
  refine ev_dup dX7_init_197 rfl ?_
  refine mk_callI (k := 15) (N' := 70) (Z' := 1472) ok_X6_init ⟨rfl, rfl⟩ vi_X6_init ml_7_80 (by decide +kernel) dX7_init_198 (Nat.le_of_ble_eq_true rfl) (by decide) (by decide) (ct_X6_init 66 67 1269 _ _ _ ⟨by decide +kernel, by decide +kernel, by decide +kernel⟩ (by decide +kernel)) ⟨⟨by decide +kernel, by decide⟩, by decide, by decide⟩ ?_
  refine mk_ast (k := 6) (ci := 6) (m := 6) (j := 4) (by decide +kernel) (by decide +kernel) (by decide) (by decide +kernel) (vp_c ⟨rfl, rfl⟩) rfl dX7_init_201 ?_
  refine ev_iinc (v := 5) (lv' := [(0, .ref 10), (1, .int 5)]) dX7_init_202 1 rfl rfl (by decide) [1, 0] rfl ?_
  refine ev_goto (tgt := 183) dX7_init_205 rfl ?_
  refine ev_iload_n dX7_init_183 1 rfl ?_
  refine ev_bipush (v := 6) dX7_init_184 rfl ?_
  refine ev_icmp_ge (tgt := 208) dX7_init_186 rfl (fun c6 => absurd c6 (by decide)) (fun _ => ?_)
  refine ev_aload_n dX7_init_189 0 rfl (by decide) ?_
  refine mk_getR (ci := 7) (b := 22) fl_7_29 rfl (by decide +kernel) (by decide +kernel) dX7_init_190 ?_
  refine ev_iload_n dX7_init_193 1 rfl ?_
  refine mk_new (ci := 6) (nf := 4) (n := 70) (n' := 71) ⟨by decide +kernel, by decide +kernel, by decide +kernel⟩ rfl rfl kl_7_27 dv_6 dX7_init_194 rfl (by decide) (by decide) (fun _ => ?_)
  refine ev_dup dX7_init_197 rfl ?_
  refine mk_callI (k := 15) (N' := 74) (Z' := 1679) ok_X6_init ⟨rfl, rfl⟩ vi_X6_init ml_7_80 (by decide +kernel) dX7_init_198 (Nat.le_of_ble_eq_true rfl) (by decide) (by decide) (ct_X6_init 70 71 1476 _ _ _ ⟨by decide +kernel, by decide +kernel, by decide +kernel⟩ (by decide +kernel)) ⟨⟨by decide +kernel, by decide⟩, by decide, by decide⟩ ?_
  refine mk_ast (k := 6) (ci := 6) (m := 6) (j := 5) (by decide +kernel) (by decide +kernel) (by decide) (by decide +kernel) (vp_c ⟨rfl, rfl⟩) rfl dX7_init_201 ?_
  refine ev_iinc (v := 6) (lv' := [(0, .ref 10), (1, .int 6)]) dX7_init_202 1 rfl rfl (by decide) [1, 0] rfl ?_
  refine ev_goto (tgt := 183) dX7_init_205 rfl ?_
  refine ev_iload_n dX7_init_183 1 rfl ?_
  refine ev_bipush (v := 6) dX7_init_184 rfl ?_
  refine ev_icmp_ge (tgt := 208) dX7_init_186 rfl (fun _ => ?_) (fun c7 => absurd (by decide) c7)
  exact ev_st (SL_eq rfl (by decide +kernel) (by decide +kernel)) (ML_eq (by decide +kernel)) kk
def xLS : List (Nat × Nat) := [(17, 0), (4, 7), (1, 7), (1, 7), (1, 7), (1, 7), (1, 7), (1, 7), (1, 7), (5, 7), (1, 4), (1, 4), (6, 6), (12, 0), (15, 0), (1, 160), (13, 0), (1, 7), (1, 7), (1, 7), (2, 7), (1, 7), (11, 0), (4, 7), (1, 7), (1, 7), (1, 7), (1, 7), (1, 7), (1, 7), (1, 7), (1, 7), (7, 4), (10, 0), (10, 0), (10, 0), (10, 0), (10, 0), (10, 0), (10, 0), (16, 0), (1, 160), (1, 3), (1, 40), (16, 0), (1, 160), (1, 3), (1, 40), (16, 0), (1, 160), (1, 3), (1, 40), (16, 0), (1, 160), (1, 3), (1, 40), (16, 0), (1, 160), (1, 3), (1, 40), (16, 0), (1, 160), (1, 3), (1, 40), (14, 0), (1, 40), (14, 0), (1, 40), (14, 0), (1, 40), (14, 0), (1, 40)]
def xRS : List (Nat × Nat × Nat) := [(42, 3, 80), (80, 0, 81), (42, 2, 78), (78, 0, 79), (42, 1, 76), (76, 0, 77), (42, 0, 74), (74, 0, 75), (22, 5, 70), (70, 2, 73), (70, 1, 72), (70, 0, 71), (22, 4, 66), (66, 2, 69), (66, 1, 68), (66, 0, 67), (22, 3, 62), (62, 2, 65), (62, 1, 64), (62, 0, 63), (22, 2, 58), (58, 2, 61), (58, 1, 60), (58, 0, 59), (22, 1, 54), (54, 2, 57), (54, 1, 56), (54, 0, 55), (22, 0, 50), (50, 2, 53), (50, 1, 52), (50, 0, 51), (19, 6, 49), (19, 5, 48), (19, 4, 47), (19, 3, 46), (19, 2, 45), (19, 1, 44), (19, 0, 43), (10, 8, 42), (10, 7, 32), (32, 1, 41), (32, 0, 33), (33, 0, 34), (33, 1, 35), (33, 2, 36), (33, 3, 37), (33, 4, 38), (33, 5, 39), (33, 6, 40), (10, 6, 26), (26, 4, 31), (26, 3, 30), (26, 2, 29), (26, 1, 28), (26, 0, 27), (10, 5, 23), (23, 0, 24), (24, 0, 25), (10, 4, 22), (10, 3, 21), (10, 2, 20), (10, 1, 19), (10, 0, 11), (11, 0, 12), (11, 1, 13), (11, 2, 14), (11, 3, 15), (11, 4, 16), (11, 5, 17), (11, 6, 18)]
def xES : List (Nat × Nat × Int32) := [(80, 2, 0), (80, 1, (-1)), (78, 2, 0), (78, 1, (-1)), (76, 2, 0), (76, 1, (-1)), (74, 2, 0), (74, 1, (-1))] ++ xET
theorem mk_X7_S {G : GW} {K : Option Value → HS → Mem → Prop} (kk : EvW G mX7_init 3 82 1851 234 [(0, .ref 10), (1, .int 4)] [] (SL 1851 xLS xRS) (ML xES) K) : EvW G mX7_init 3 82 1851 208 [(0, .ref 10), (1, .int 6)] [] (SL 1679 xLT xRT) (ML xET) K := by
  refine EvW.less [0] (lv' := [(0, .ref 10)]) rfl ?_
  refine ev_iconst (v := 0) dX7_init_208 rfl ?_
  refine ev_istore_n (lv' := [(0, .ref 10), (1, .int 0)]) dX7_init_209 (by decide) [1, 0] rfl ?_
  refine ev_iload_n dX7_init_210 1 rfl ?_
  refine ev_iconst (v := 4) dX7_init_211 rfl ?_
  refine ev_icmp_ge (tgt := 234) dX7_init_212 rfl (fun c1 => absurd c1 (by decide)) (fun _ => ?_)
  refine ev_aload_n dX7_init_215 0 rfl (by decide) ?_
  refine mk_getR (ci := 7) (b := 42) fl_7_56 rfl (by decide +kernel) (by decide +kernel) dX7_init_216 ?_
  refine ev_iload_n dX7_init_219 1 rfl ?_
  refine mk_new (ci := 4) (nf := 3) (n := 74) (n' := 75) ⟨by decide +kernel, by decide +kernel, by decide +kernel⟩ rfl rfl kl_7_54 dv_4 dX7_init_220 rfl (by decide) (by decide) (fun _ => ?_)
  refine ev_dup dX7_init_223 rfl ?_
  refine mk_callIN (k := 13) (N' := 76) (Z' := 1722) ok_X4_init ⟨rfl, rfl⟩ vi_X4_init nw_7_81 (by decide +kernel) dX7_init_224 (Nat.le_of_ble_eq_true rfl) (by decide) (by decide) (ct_X4_init 74 75 1682 _ _ _ ⟨by decide +kernel, by decide +kernel, by decide +kernel⟩ (by decide +kernel)) ⟨⟨by decide +kernel, by decide⟩, by decide, by decide⟩ ?_
  refine mk_ast (k := 7) (ci := 4) (m := 4) (j := 0) (by decide +kernel) (by decide +kernel) (by decide) (by decide +kernel) (vp_c ⟨rfl, rfl⟩) rfl dX7_init_227 ?_
  refine ev_iinc (v := 1) (lv' := [(0, .ref 10), (1, .int 1)]) dX7_init_228 1 rfl rfl (by decide) [1, 0] rfl ?_
  refine ev_goto (tgt := 210) dX7_init_231 rfl ?_
  refine ev_iload_n dX7_init_210 1 rfl ?_
  refine ev_iconst (v := 4) dX7_init_211 rfl ?_
  refine ev_icmp_ge (tgt := 234) dX7_init_212 rfl (fun c2 => absurd c2 (by decide)) (fun _ => ?_)
  refine ev_aload_n dX7_init_215 0 rfl (by decide) ?_
  refine mk_getR (ci := 7) (b := 42) fl_7_56 rfl (by decide +kernel) (by decide +kernel) dX7_init_216 ?_
  refine ev_iload_n dX7_init_219 1 rfl ?_
  refine mk_new (ci := 4) (nf := 3) (n := 76) (n' := 77) ⟨by decide +kernel, by decide +kernel, by decide +kernel⟩ rfl rfl kl_7_54 dv_4 dX7_init_220 rfl (by decide) (by decide) (fun _ => ?_)
  refine ev_dup dX7_init_223 rfl ?_
  refine mk_callIN (k := 13) (N' := 78) (Z' := 1765) ok_X4_init ⟨rfl, rfl⟩ vi_X4_init nw_7_81 (by decide +kernel) dX7_init_224 (Nat.le_of_ble_eq_true rfl) (by decide) (by decide) (ct_X4_init 76 77 1725 _ _ _ ⟨by decide +kernel, by decide +kernel, by decide +kernel⟩ (by decide +kernel)) ⟨⟨by decide +kernel, by decide⟩, by decide, by decide⟩ ?_
  refine mk_ast (k := 7) (ci := 4) (m := 4) (j := 1) (by decide +kernel) (by decide +kernel) (by decide) (by decide +kernel) (vp_c ⟨rfl, rfl⟩) rfl dX7_init_227 ?_
  refine ev_iinc (v := 2) (lv' := [(0, .ref 10), (1, .int 2)]) dX7_init_228 1 rfl rfl (by decide) [1, 0] rfl ?_
  refine ev_goto (tgt := 210) dX7_init_231 rfl ?_
  refine ev_iload_n dX7_init_210 1 rfl ?_
  refine ev_iconst (v := 4) dX7_init_211 rfl ?_
  refine ev_icmp_ge (tgt := 234) dX7_init_212 rfl (fun c3 => absurd c3 (by decide)) (fun _ => ?_)
  refine ev_aload_n dX7_init_215 0 rfl (by decide) ?_
  refine mk_getR (ci := 7) (b := 42) fl_7_56 rfl (by decide +kernel) (by decide +kernel) dX7_init_216 ?_
  refine ev_iload_n dX7_init_219 1 rfl ?_
  refine mk_new (ci := 4) (nf := 3) (n := 78) (n' := 79) ⟨by decide +kernel, by decide +kernel, by decide +kernel⟩ rfl rfl kl_7_54 dv_4 dX7_init_220 rfl (by decide) (by decide) (fun _ => ?_)
  refine ev_dup dX7_init_223 rfl ?_
  refine mk_callIN (k := 13) (N' := 80) (Z' := 1808) ok_X4_init ⟨rfl, rfl⟩ vi_X4_init nw_7_81 (by decide +kernel) dX7_init_224 (Nat.le_of_ble_eq_true rfl) (by decide) (by decide) (ct_X4_init 78 79 1768 _ _ _ ⟨by decide +kernel, by decide +kernel, by decide +kernel⟩ (by decide +kernel)) ⟨⟨by decide +kernel, by decide⟩, by decide, by decide⟩ ?_
  refine mk_ast (k := 7) (ci := 4) (m := 4) (j := 2) (by decide +kernel) (by decide +kernel) (by decide) (by decide +kernel) (vp_c ⟨rfl, rfl⟩) rfl dX7_init_227 ?_
  refine ev_iinc (v := 3) (lv' := [(0, .ref 10), (1, .int 3)]) dX7_init_228 1 rfl rfl (by decide) [1, 0] rfl ?_
  refine ev_goto (tgt := 210) dX7_init_231 rfl ?_
  refine ev_iload_n dX7_init_210 1 rfl ?_
  refine ev_iconst (v := 4) dX7_init_211 rfl ?_
  refine ev_icmp_ge (tgt := 234) dX7_init_212 rfl (fun c4 => absurd c4 (by decide)) (fun _ => ?_)
  refine ev_aload_n dX7_init_215 0 rfl (by decide) ?_
  refine mk_getR (ci := 7) (b := 42) fl_7_56 rfl (by decide +kernel) (by decide +kernel) dX7_init_216 ?_
  refine ev_iload_n dX7_init_219 1 rfl ?_
  refine mk_new (ci := 4) (nf := 3) (n := 80) (n' := 81) ⟨by decide +kernel, by decide +kernel, by decide +kernel⟩ rfl rfl kl_7_54 dv_4 dX7_init_220 rfl (by decide) (by decide) (fun _ => ?_)
  refine ev_dup dX7_init_223 rfl ?_
  refine mk_callIN (k := 13) (N' := 82) (Z' := 1851) ok_X4_init ⟨rfl, rfl⟩ vi_X4_init nw_7_81 (by decide +kernel) dX7_init_224 (Nat.le_of_ble_eq_true rfl) (by decide) (by decide) (ct_X4_init 80 81 1811 _ _ _ ⟨by decide +kernel, by decide +kernel, by decide +kernel⟩ (by decide +kernel)) ⟨⟨by decide +kernel, by decide⟩, by decide, by decide⟩ ?_
  refine mk_ast (k := 7) (ci := 4) (m := 4) (j := 3) (by decide +kernel) (by decide +kernel) (by decide) (by decide +kernel) (vp_c ⟨rfl, rfl⟩) rfl dX7_init_227 ?_
  refine ev_iinc (v := 4) (lv' := [(0, .ref 10), (1, .int 4)]) dX7_init_228 1 rfl rfl (by decide) [1, 0] rfl ?_
  refine ev_goto (tgt := 210) dX7_init_231 rfl ?_
  refine ev_iload_n dX7_init_210 1 rfl ?_
  refine ev_iconst (v := 4) dX7_init_211 rfl ?_
  refine ev_icmp_ge (tgt := 234) dX7_init_212 rfl (fun _ => ?_) (fun c5 => absurd (by decide) c5)
  exact ev_st (SL_eq rfl (by decide +kernel) (by decide +kernel)) (ML_eq (by decide +kernel)) kk
theorem ct_X7_init {G : GW} : EvW G mX7_init 3 82 1851 0 [(0, .ref 10)] [] (SL 13 [(17, 0)] []) (ML []) (fun v S' μ' => v = none ∧ S' = SL 1851 xLS xRS ∧ μ' = ML xES) :=
  mk_X7_A (wk_out (mk_X7_H (mk_X7_T (mk_X7_S (mk_return dX7_init_234 rfl rfl rfl rfl rfl)))) 7 0 (by omega))
