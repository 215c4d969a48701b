/-! ===== the reference reads a text ===== -/
def tkR (k : Int32) : Prop := ∃ j, j < 23 ∧ k = nI j
theorem tkT_R (f : Nat → Int32) (n i : Nat) : tkR (tkT f n i) := by
  unfold tkT
  rcases tkK_cases f n (stT f n i) with ⟨-, e⟩ | ⟨-, -, e | ⟨w, hw, e⟩⟩ | ⟨-, -, -, e | e⟩ | ⟨-, -, -, e | ⟨k, hk, e⟩⟩
  · exact ⟨21, by omega, e⟩
  · exact ⟨22, by omega, e⟩
  · exact ⟨w, by omega, e⟩
  · exact ⟨22, by omega, e⟩
  · exact ⟨20, by omega, e⟩
  · exact ⟨22, by omega, e⟩
  · exact ⟨12 + k, by omega, e⟩
theorem tok_tab : ∀ j, j < 20 → ((decide (tokT (nI j) = 4) && decide (tokW (nI j) 0 = 40)) = decide (nI j = 12) ∧ (decide (tokT (nI j) = 4) && decide (tokW (nI j) 0 = 41)) = decide (nI j = 13) ∧ (decide (tokT (nI j) = 4) && decide (tokW (nI j) 0 = 59)) = decide (nI j = 14) ∧ (decide (tokT (nI j) = 4) && decide (tokW (nI j) 0 = 43)) = decide (nI j = 15) ∧ (decide (tokT (nI j) = 4) && decide (tokW (nI j) 0 = 45)) = decide (nI j = 16) ∧ (decide (tokT (nI j) = 4) && decide (tokW (nI j) 0 = 42)) = decide (nI j = 17) ∧ (decide (tokT (nI j) = 4) && decide (tokW (nI j) 0 = 60)) = decide (nI j = 18) ∧ (decide (tokT (nI j) = 4) && decide (tokW (nI j) 0 = 61)) = decide (nI j = 19)) ∧ ∀ p, p < 6 → (decide (tokT (nI j) = 3) && decide (tokW (nI j) 0 = nI p)) = decide (nI j = nI p) := by decide
theorem tok_v {k v : Int32} (h : ¬ k = 20) : tokW k v = tokW k 0 := by
  unfold tokW
  rw [if_neg h, if_neg h]
def sgF (k : Int32) (μ : Mem) : Prop := (isSgM μ 40 = decide (k = 12) ∧ isSgM μ 41 = decide (k = 13) ∧ isSgM μ 59 = decide (k = 14) ∧ isSgM μ 43 = decide (k = 15) ∧ isSgM μ 45 = decide (k = 16) ∧ isSgM μ 42 = decide (k = 17) ∧ isSgM μ 60 = decide (k = 18) ∧ isSgM μ 61 = decide (k = 19)) ∧ ∀ p, p < 6 → isKyM μ (nI p) = decide (k = nI p)
theorem sg_is {k v : Int32} {μ : Mem} (hk : tkR k) (hV : tokV k v (μ 82 18) (μ 82 19)) : sgF k μ := by
  obtain ⟨j, hj, rfl⟩ := hk
  obtain ⟨h1, h2⟩ := hV
  unfold sgF isSgM isKyM
  rw [h1]
  by_cases c : j < 20
  · have n0 : ¬ nI j = 20 := nI_ne (b := 20) (by omega) (by omega) (by omega)
    have n1 : ¬ nI j = 21 := nI_ne (b := 21) (by omega) (by omega) (by omega)
    have n2 : ¬ nI j = 22 := nI_ne (b := 22) (by omega) (by omega) (by omega)
    rw [h2 n1 n2, tok_v n0]
    exact tok_tab j c
  · rcases (show j = 20 ∨ j = 21 ∨ j = 22 by omega) with rfl | rfl | rfl
    all_goals
      have e4 : ∀ b, (decide (tokT (nI _) = 4) && b) = false := fun b => by
        first
          | exact (show (decide (tokT (nI 20) = 4) && b) = false from rfl)
          | exact (show (decide (tokT (nI 21) = 4) && b) = false from rfl)
          | exact (show (decide (tokT (nI 22) = 4) && b) = false from rfl)
      exact ⟨⟨rfl, rfl, rfl, rfl, rfl, rfl, rfl, rfl⟩, fun p hp => by
        rcases (show p = 0 ∨ p = 1 ∨ p = 2 ∨ p = 3 ∨ p = 4 ∨ p = 5 by omega) with rfl | rfl | rfl | rfl | rfl | rfl <;> rfl⟩
theorem code_num {x : Nat} (hx : x ≤ 9999) : codeK (100 + nI x) = -1 - nI x := by
  have e : (100 : Int32) + nI x = nI (100 + x) := nI_add 100 x
  have c : (100 : Int32) ≤ nI (100 + x) := nI_le (a := 100) (by omega) (by omega)
  unfold codeK
  rw [e, if_pos c, show (100 : Int32) = nI 100 from rfl, pk_sub (by omega), show 100 + x - 100 = x by omega]
theorem code_name {k : Int32} (h : inB k 6 11 = true) : codeK k = k - 6 := by
  have hb := inB_t.mp h
  have n : ¬ (100 : Int32) ≤ k := fun q => by
    have := Int32.le_trans q hb.2
    exact absurd this (by decide)
  unfold codeK
  rw [if_neg n, if_pos hb]
theorem bt_o {k : Int32} {μ : Mem} (h : sgF k μ) : (opB k = true → btO μ = codeK k) ∧ (opB k = false → btO μ = -1) := by
  obtain ⟨⟨-, -, -, s15, s16, s17, s18, s19⟩, ky⟩ := h
  have k4 : isKyM μ 4 = decide (k = 4) := ky 4 (by omega)
  have k3 : isKyM μ 3 = decide (k = 3) := ky 3 (by omega)
  unfold btO
  rw [s15, s16, s17, s18, s19, k4, k3]
  constructor
  · intro h
    rcases opB_c h with rfl | rfl | rfl | rfl | rfl | rfl | rfl <;> rfl
  · intro h
    have n : ¬ (k = 3 ∨ k = 4 ∨ k = 15 ∨ k = 16 ∨ k = 17 ∨ k = 18 ∨ k = 19) := by simpa [opB] using h
    have n15 : ¬ k = 15 := fun e => n (by rw [e]; decide)
    have n16 : ¬ k = 16 := fun e => n (by rw [e]; decide)
    have n17 : ¬ k = 17 := fun e => n (by rw [e]; decide)
    have n18 : ¬ k = 18 := fun e => n (by rw [e]; decide)
    have n19 : ¬ k = 19 := fun e => n (by rw [e]; decide)
    have n4 : ¬ k = 4 := fun e => n (by rw [e]; decide)
    have n3 : ¬ k = 3 := fun e => n (by rw [e]; decide)
    rw [decide_eq_false n15, decide_eq_false n16, decide_eq_false n17, decide_eq_false n18, decide_eq_false n19, decide_eq_false n4, decide_eq_false n3]
    rfl
/-! what is there while an E is read -/
def TKV (f : Nat → Int32) (n i : Nat) (ν : Mem) : Prop := ν 82 17 = nI (plT f n (i + 1)) ∧ ν 82 20 = nI (stT f n i) ∧ tokV (tkT f n i) (nvT f n i) (ν 82 18) (ν 82 19)
def fR (row : Nat) (μ ν : Mem) : Prop := ∀ a k, ¬ (a = 82 ∧ ((17 ≤ k ∧ k ≤ 20) ∨ (24 ≤ k ∧ k ≤ 26) ∨ (28 ≤ k ∧ k ≤ 29))) → ¬ (a = 93 ∧ 160 * row ≤ k ∧ k < 160 * row + 160) → ¬ (a = 94 ∧ k = row) → a ≠ 97 → a ≠ 98 → ν a k = μ a k
theorem fR.rf (row : Nat) (μ : Mem) : fR row μ μ := fun _ _ _ _ _ _ _ => rfl
theorem fR.e {row : Nat} {μ ν ξ : Mem} (h1 : fR row μ ν) (h2 : fE row ν ξ) : fR row μ ξ := fun a k e1 e2 e3 e4 e5 => (h2 a k (by omega) e2 e3 e4 e5).trans (h1 a k e1 e2 e3 e4 e5)
theorem fR.f4 {row : Nat} {μ ν ξ : Mem} (h1 : fR row μ ν) (h2 : fr4 ν ξ) : fR row μ ξ := fun a k e1 e2 e3 e4 e5 => (h2 a k (by omega)).trans (h1 a k e1 e2 e3 e4 e5)
def BS (f : Nat → Int32) (n : Nat) (μ : Mem) : Prop := n ≤ 160 ∧ μ 82 12 = nI n ∧ μ 92 = f ∧ vMk μ ∧ ∀ k, k < n → ∃ b, b < 256 ∧ f k = nI b
theorem BS.fr {f : Nat → Int32} {n row : Nat} {μ ν : Mem} (h : BS f n μ) (hf : fR row μ ν) : BS f n ν := by
  obtain ⟨h1, h2, h3, h4, h5⟩ := h
  have r : ∀ a, a ≠ 82 → a ≠ 93 → a ≠ 94 → a ≠ 97 → a ≠ 98 → ν a = μ a := fun a a1 a2 a3 a4 a5 => funext fun k => hf a k (by omega) (by omega) (by omega) a4 a5
  exact ⟨h1, (hf 82 12 (by omega) (by omega) (by omega) (by omega) (by omega)).trans h2, (r 92 (by omega) (by omega) (by omega) (by omega) (by omega)).trans h3, h4.eq (r 95 (by omega) (by omega) (by omega) (by omega) (by omega)) (r 96 (by omega) (by omega) (by omega) (by omega) (by omega)), h5⟩
theorem BS.nx {f : Nat → Int32} {n i : Nat} {ν : Mem} (h : BS f n ν) (h17 : ν 82 17 = nI (plT f n i)) : nxP ν := ⟨n, plT f n i, h.1, plT_le f n i, h.2.1, h17, h.2.2.2.1, fun k hk => by rw [h.2.2.1]; exact h.2.2.2.2 k hk⟩
theorem BS.tk {f : Nat → Int32} {n i : Nat} {ν ξ : Mem} (h : BS f n ν) (h17 : ν 82 17 = nI (plT f n i)) (hx : nxR ν ξ) : fr4 ν ξ ∧ TKV f n i ξ := by
  obtain ⟨h1, h2⟩ := hx
  obtain ⟨g1, g2, g3⟩ := h2 n (plT f n i) h.1 (plT_le f n i) h.2.1 h17
  rw [h.2.2.1] at g1 g2 g3
  exact ⟨h1, g2, g1, g3⟩
def SI (f : Nat → Int32) (n row i : Nat) (W C : List Int32) (cs : List Bool) (ν : Mem) : Prop := MV0 row W C (opnN W) (nstN W) cs ν ∧ opnN W ≤ 5 ∧ (∀ x, x ∈ W → opW x) ∧ W.length + C.length ≤ i ∧ i ≤ plT f n i
def reL (f : Nat → Int32) (n row : Nat) (R : Bool × Nat × List Int32) (μ : Mem) (x : Int32) (ν : Mem) : Prop := x = bi R.1 ∧ fR row μ ν ∧ (R.1 = true → ν 94 row = nI R.2.2.length ∧ (∀ k, k < R.2.2.length → ν 93 (160 * row + k) = codeK (R.2.2.getD k 0)) ∧ ν 82 17 = nI (plT f n (R.2.1 + 1))) ∧ (R.1 = false → ν 82 20 = nI (stT f n R.2.1))
def rePr (f : Nat → Int32) (n i : Nat) (μ : Mem) (x : Int32) : Prop := ∃ row, row < 18 ∧ x = nI row ∧ BS f n μ ∧ TKV f n i μ ∧ i ≤ plT f n i
theorem sg_X8_readE_0 {G : GW} {K : Option Value → Mem → Prop} {μ : Mem} {x1 : Int32}  (h : Ev2 G mX8_readE 4 40 [(0, .ref 82), (1, .int x1), (2, .int 1), (3, .int 1)] [] (mset (mset (mset (mset (mset (mset μ 82 28 (160 * x1)) 82 29 0) 82 24 0) 82 25 0) 82 26 0) 98 0 0) K) : Ev2 G mX8_readE 4 0 [(0, .ref 82), (1, .int x1)] [] μ K := by
  refine ev_aload_n dX8_readE_0 0 rfl (by decide) ?_
  refine ev_sipush (v := 160) dX8_readE_1 rfl ?_
  refine ev_iload_n dX8_readE_4 1 rfl ?_
  refine ev_imul dX8_readE_5 ?_
  refine ev_putI fl_8_120 ⟨rfl, rfl, rfl⟩ (fun r hr => by cases hr; rfl) kd_82 dX8_readE_6 ?_
  refine ev_aload_n dX8_readE_9 0 rfl (by decide) ?_
  refine ev_iconst (v := 0) dX8_readE_10 rfl ?_
  refine ev_putI fl_8_123 ⟨rfl, rfl, rfl⟩ (fun r hr => by cases hr; rfl) kd_82 dX8_readE_11 ?_
  refine ev_aload_n dX8_readE_14 0 rfl (by decide) ?_
  refine ev_iconst (v := 0) dX8_readE_15 rfl ?_
  refine ev_putI fl_8_126 ⟨rfl, rfl, rfl⟩ (fun r hr => by cases hr; rfl) kd_82 dX8_readE_16 ?_
  refine ev_aload_n dX8_readE_19 0 rfl (by decide) ?_
  refine ev_iconst (v := 0) dX8_readE_20 rfl ?_
  refine ev_putI fl_8_135 ⟨rfl, rfl, rfl⟩ (fun r hr => by cases hr; rfl) kd_82 dX8_readE_21 ?_
  refine ev_aload_n dX8_readE_24 0 rfl (by decide) ?_
  refine ev_iconst (v := 0) dX8_readE_25 rfl ?_
  refine ev_putI fl_8_152 ⟨rfl, rfl, rfl⟩ (fun r hr => by cases hr; rfl) kd_82 dX8_readE_26 ?_
  refine ev_aload_n dX8_readE_29 0 rfl (by decide) ?_
  refine ev_getR' fl_8_148 rfl kd_82 rf_82_27 dX8_readE_30 ?_
  refine ev_iconst (v := 0) dX8_readE_33 rfl ?_
  refine ev_iconst (v := 0) dX8_readE_34 rfl ?_
  refine ev_zastore' (j := 0) kd_98 ln_98 (vp_c ⟨rfl, rfl⟩) rfl rfl dX8_readE_35 ?_
  refine ev_iconst (v := 1) dX8_readE_36 rfl ?_
  refine ev_istore_n (lv' := [(0, .ref 82), (1, .int x1), (2, .int 1)]) dX8_readE_37 (by decide) [1, 2, 0] rfl ?_
  refine ev_iconst (v := 1) dX8_readE_38 rfl ?_
  refine ev_istore_n (lv' := [(0, .ref 82), (1, .int x1), (2, .int 1), (3, .int 1)]) dX8_readE_39 (by decide) [1, 2, 3, 0] rfl ?_
  exact h
theorem sg_X8_readE_40 {G : GW} {K : Option Value → Mem → Prop} {μ : Mem} {x1 : Int32} {x2 x3 : Bool}  (h : ((x2 = false) → Ev2 G mX8_readE 4 96 [(0, .ref 82), (1, .int x1), (2, .int (bi x2)), (3, .int (bi x3))] [] μ K) ∧ ((x2 = true) → (((μ 82 18) = 1) → Ev2 G mX8_readE 4 60 [(0, .ref 82), (1, .int x1), (3, .int (bi x3))] [] μ K) ∧ ((¬ ((μ 82 18) = 1)) → ((¬ (μ 82 18) = 2) → Ev2 G mX8_readE 4 96 [(0, .ref 82), (1, .int x1), (2, .int (bi x2)), (3, .int (bi x3))] [] μ K) ∧ (((μ 82 18) = 2) → Ev2 G mX8_readE 4 60 [(0, .ref 82), (1, .int x1), (3, .int (bi x3))] [] μ K)))) : Ev2 G mX8_readE 4 40 [(0, .ref 82), (1, .int x1), (2, .int (bi x2)), (3, .int (bi x3))] [] μ K := by
  refine ev_iload_n dX8_readE_40 2 rfl ?_
  refine ev_ifeq_bi (tgt := 96) dX8_readE_41 rfl (fun c1 => ?_) (fun c1 => ?_)
  · have h2 := h.1 c1
    exact h2
  · have h3 := h.2 c1
    refine ev_aload_n dX8_readE_44 0 rfl (by decide) ?_
    refine ev_getI' (v := (μ 82 18)) fl_8_91 rfl kd_82 rfl dX8_readE_45 ?_
    refine ev_iconst (v := 1) dX8_readE_48 rfl ?_
    refine ev_icmp_eq (tgt := 60) dX8_readE_49 rfl (fun c4 => ?_) (fun c4 => ?_)
    · have h5 := h3.1 c4
      refine EvW.less [0, 1, 3] (lv' := [(0, .ref 82), (1, .int x1), (3, .int (bi x3))]) rfl ?_
      exact h5
    · have h6 := h3.2 c4
      refine ev_aload_n dX8_readE_52 0 rfl (by decide) ?_
      refine ev_getI' (v := (μ 82 18)) fl_8_91 rfl kd_82 rfl dX8_readE_53 ?_
      refine ev_iconst (v := 2) dX8_readE_56 rfl ?_
      refine ev_icmp_ne (tgt := 96) dX8_readE_57 rfl (fun c7 => ?_) (fun c7 => ?_)
      · have h8 := h6.1 c7
        exact h8
      · have h9 := h6.2 c7
        refine EvW.less [0, 1, 3] (lv' := [(0, .ref 82), (1, .int x1), (3, .int (bi x3))]) rfl ?_
        exact h9
theorem sg_X8_readE_60 {G : GW} {K : Option Value → Mem → Prop} {μ : Mem} {x1 : Int32} {x3 : Bool}  (h : ((¬ (μ 82 18) = 1) → (emP μ) ∧ (daP (emM μ (μ 82 19))) ∧ Ev2 G mX8_readE 4 208 [(0, .ref 82), (1, .int x1), (2, .int 0), (3, .int (bi x3))] [] (daM (emM μ (μ 82 19)) (7 : Int32)) K) ∧ (((μ 82 18) = 1) → (emP μ) ∧ (daP (emM μ ((-1) - (μ 82 19)))) ∧ Ev2 G mX8_readE 4 208 [(0, .ref 82), (1, .int x1), (2, .int 0), (3, .int (bi x3))] [] (daM (emM μ ((-1) - (μ 82 19))) (7 : Int32)) K)) : Ev2 G mX8_readE 4 60 [(0, .ref 82), (1, .int x1), (3, .int (bi x3))] [] μ K := by
  refine ev_aload_n dX8_readE_60 0 rfl (by decide) ?_
  refine ev_aload_n dX8_readE_61 0 rfl (by decide) ?_
  refine ev_getI' (v := (μ 82 18)) fl_8_91 rfl kd_82 rfl dX8_readE_62 ?_
  refine ev_iconst (v := 1) dX8_readE_65 rfl ?_
  refine ev_icmp_ne (tgt := 78) dX8_readE_66 rfl (fun c1 => ?_) (fun c1 => ?_)
  · have h2 := h.1 c1
    refine ev_aload_n dX8_readE_78 0 rfl (by decide) ?_
    refine ev_getI' (v := (μ 82 19)) fl_8_104 rfl kd_82 rfl dX8_readE_79 ?_
    have p4 := h2.1
    have h5 := h2.2
    refine e2_callVv (μ1 := (emM μ (μ 82 19))) (a := 82) (as := [.int (μ 82 19)]) (st := []) ok_X8_emit vi_X8_emit ml_8_138 hcl_8 kd_82 dX8_readE_82 rfl rfl (Nat.le_of_ble_eq_true rfl) (Nat.le_of_ble_eq_true rfl) (by decide) (ct_X8_emit ((μ 82 19)) μ p4) ?_
    refine ev_aload_n dX8_readE_85 0 rfl (by decide) ?_
    refine ev_bipush (v := 7) dX8_readE_86 rfl ?_
    have p6 := h5.1
    have h7 := h5.2
    refine e2_callVv (μ1 := (daM (emM μ (μ 82 19)) (7 : Int32))) (a := 82) (as := [.int 7]) (st := []) ok_X8_doAll vi_X8_doAll ml_8_155 hcl_8 kd_82 dX8_readE_88 rfl rfl (Nat.le_of_ble_eq_true rfl) (Nat.le_of_ble_eq_true rfl) (by decide) (ct_X8_doAll (7) (emM μ (μ 82 19)) p6) ?_
    refine ev_iconst (v := 0) dX8_readE_91 rfl ?_
    refine ev_istore_n (lv' := [(0, .ref 82), (1, .int x1), (2, .int 0), (3, .int (bi x3))]) dX8_readE_92 (by decide) [1, 2, 0, 3] rfl ?_
    refine ev_goto (tgt := 208) dX8_readE_93 rfl ?_
    exact h7
  · have h3 := h.2 c1
    refine ev_iconst (v := (-1)) dX8_readE_69 rfl ?_
    refine ev_aload_n dX8_readE_70 0 rfl (by decide) ?_
    refine ev_getI' (v := (μ 82 19)) fl_8_104 rfl kd_82 rfl dX8_readE_71 ?_
    refine ev_isub dX8_readE_74 ?_
    refine ev_goto (tgt := 82) dX8_readE_75 rfl ?_
    have p8 := h3.1
    have h9 := h3.2
    refine e2_callVv (μ1 := (emM μ ((-1) - (μ 82 19)))) (a := 82) (as := [.int ((-1) - (μ 82 19))]) (st := []) ok_X8_emit vi_X8_emit ml_8_138 hcl_8 kd_82 dX8_readE_82 rfl rfl (Nat.le_of_ble_eq_true rfl) (Nat.le_of_ble_eq_true rfl) (by decide) (ct_X8_emit (((-1) - (μ 82 19))) μ p8) ?_
    refine ev_aload_n dX8_readE_85 0 rfl (by decide) ?_
    refine ev_bipush (v := 7) dX8_readE_86 rfl ?_
    have p10 := h9.1
    have h11 := h9.2
    refine e2_callVv (μ1 := (daM (emM μ ((-1) - (μ 82 19))) (7 : Int32))) (a := 82) (as := [.int 7]) (st := []) ok_X8_doAll vi_X8_doAll ml_8_155 hcl_8 kd_82 dX8_readE_88 rfl rfl (Nat.le_of_ble_eq_true rfl) (Nat.le_of_ble_eq_true rfl) (by decide) (ct_X8_doAll (7) (emM μ ((-1) - (μ 82 19))) p10) ?_
    refine ev_iconst (v := 0) dX8_readE_91 rfl ?_
    refine ev_istore_n (lv' := [(0, .ref 82), (1, .int x1), (2, .int 0), (3, .int (bi x3))]) dX8_readE_92 (by decide) [1, 2, 0, 3] rfl ?_
    refine ev_goto (tgt := 208) dX8_readE_93 rfl ?_
    exact h11
theorem sg_X8_readE_96 {G : GW} {K : Option Value → Mem → Prop} {μ : Mem} {x1 : Int32} {x2 x3 : Bool}  (h : ((x2 = false) → Ev2 G mX8_readE 4 132 [(0, .ref 82), (1, .int x1), (2, .int (bi x2)), (3, .int (bi x3))] [] μ K) ∧ ((x2 = true) → Ev2 G mX8_readE 4 100 [(0, .ref 82), (1, .int x1), (2, .int (bi x2)), (3, .int (bi x3))] [] μ K)) : Ev2 G mX8_readE 4 96 [(0, .ref 82), (1, .int x1), (2, .int (bi x2)), (3, .int (bi x3))] [] μ K := by
  refine ev_iload_n dX8_readE_96 2 rfl ?_
  refine ev_ifeq_bi (tgt := 132) dX8_readE_97 rfl (fun c1 => ?_) (fun c1 => ?_)
  · have h2 := h.1 c1
    exact h2
  · have h3 := h.2 c1
    exact h3
theorem sg_X8_readE_100 {G : GW} {K : Option Value → Mem → Prop} {μ : Mem} {x1 : Int32} {x2 x3 : Bool}  (h : (ahP μ) ∧ (((ahB μ (bi x3)) = true) → (((isSgM μ (45 : Int32)) = true) → Ev2 G mX8_readE 4 208 [(0, .ref 82), (1, .int x1), (2, .int (bi x2)), (3, .int 0)] [] (ahM μ (bi x3)) K) ∧ (((isSgM μ (45 : Int32)) = false) → Ev2 G mX8_readE 4 208 [(0, .ref 82), (1, .int x1), (2, .int (bi x2)), (3, .int 1)] [] (ahM μ (bi x3)) K)) ∧ (((ahB μ (bi x3)) = false) → K (some (.int 0)) (ahM μ (bi x3)))) : Ev2 G mX8_readE 4 100 [(0, .ref 82), (1, .int x1), (2, .int (bi x2)), (3, .int (bi x3))] [] μ K := by
  refine ev_aload_n dX8_readE_100 0 rfl (by decide) ?_
  refine ev_bipush (v := 45) dX8_readE_101 rfl ?_
  refine e2_callV (w := .int (bi (isSgM μ (45 : Int32)))) (μ1 := μ) (a := 82) (as := [.int 45]) (st := []) ok_X8_isSign vi_X8_isSign ml_8_142 hcl_8 kd_82 dX8_readE_103 rfl rfl (Nat.le_of_ble_eq_true rfl) (Nat.le_of_ble_eq_true rfl) (by decide) (ct_X8_isSign (45) μ) ?_
  refine ev_istore (lv' := [(0, .ref 82), (1, .int x1), (2, .int (bi x2)), (3, .int (bi x3)), (4, .int (bi (isSgM μ (45 : Int32))))]) dX8_readE_106 (by decide) [1, 2, 3, 4, 0] rfl ?_
  refine ev_aload_n dX8_readE_108 0 rfl (by decide) ?_
  refine ev_iload_n dX8_readE_109 3 rfl ?_
  have p1 := h.1
  have h2 := h.2
  refine e2_callV (w := .int (bi (ahB μ (bi x3)))) (μ1 := (ahM μ (bi x3))) (a := 82) (as := [.int (bi x3)]) (st := []) ok_X8_ahead vi_X8_ahead ml_8_161 hcl_8 kd_82 dX8_readE_110 rfl rfl (Nat.le_of_ble_eq_true rfl) (Nat.le_of_ble_eq_true rfl) (by decide) (ct_X8_ahead ((bi x3)) μ p1) ?_
  refine ev_ifne_bi (tgt := 118) dX8_readE_113 rfl (fun c3 => ?_) (fun c3 => ?_)
  · have h4 := h2.1 c3
    refine ev_iload dX8_readE_118 4 rfl ?_
    refine ev_ifne_bi (tgt := 127) dX8_readE_120 rfl (fun c6 => ?_) (fun c6 => ?_)
    · have h7 := h4.1 c6
      refine ev_iconst (v := 0) dX8_readE_127 rfl ?_
      refine ev_istore_n (lv' := [(0, .ref 82), (1, .int x1), (2, .int (bi x2)), (3, .int 0), (4, .int (bi (isSgM μ (45 : Int32))))]) dX8_readE_128 (by decide) [1, 2, 3, 0, 4] rfl ?_
      refine ev_goto (tgt := 208) dX8_readE_129 rfl ?_
      refine EvW.less [0, 1, 2, 3] (lv' := [(0, .ref 82), (1, .int x1), (2, .int (bi x2)), (3, .int 0)]) rfl ?_
      exact h7
    · have h8 := h4.2 c6
      refine ev_iconst (v := 1) dX8_readE_123 rfl ?_
      refine ev_goto (tgt := 128) dX8_readE_124 rfl ?_
      refine ev_istore_n (lv' := [(0, .ref 82), (1, .int x1), (2, .int (bi x2)), (3, .int 1), (4, .int (bi (isSgM μ (45 : Int32))))]) dX8_readE_128 (by decide) [1, 2, 3, 0, 4] rfl ?_
      refine ev_goto (tgt := 208) dX8_readE_129 rfl ?_
      refine EvW.less [0, 1, 2, 3] (lv' := [(0, .ref 82), (1, .int x1), (2, .int (bi x2)), (3, .int 1)]) rfl ?_
      exact h8
  · have h5 := h2.2 c3
    refine ev_iconst (v := 0) dX8_readE_116 rfl ?_
    exact ev_ireturn dX8_readE_117 rfl rfl rfl rfl ⟨rfl, h5⟩
theorem sg_X8_readE_132 {G : GW} {K : Option Value → Mem → Prop} {μ : Mem} {x1 : Int32} {x2 x3 : Bool}  (h : (((isSgM μ (59 : Int32)) = false) → Ev2 G mX8_readE 4 165 [(0, .ref 82), (1, .int x1), (2, .int (bi x2)), (3, .int (bi x3))] [] μ K) ∧ (((isSgM μ (59 : Int32)) = true) → ((¬ (μ 82 26) = 0) → Ev2 G mX8_readE 4 165 [(0, .ref 82), (1, .int x1), (2, .int (bi x2)), (3, .int (bi x3))] [] μ K) ∧ (((μ 82 26) = 0) → (daP μ) ∧ (vp_in x1 18) ∧ K (some (.int 1)) (mset (daM μ (1 : Int32)) 94 x1.toNatClampNeg ((daM μ (1 : Int32)) 82 29))))) : Ev2 G mX8_readE 4 132 [(0, .ref 82), (1, .int x1), (2, .int (bi x2)), (3, .int (bi x3))] [] μ K := by
  refine ev_aload_n dX8_readE_132 0 rfl (by decide) ?_
  refine ev_bipush (v := 59) dX8_readE_133 rfl ?_
  refine e2_callV (w := .int (bi (isSgM μ (59 : Int32)))) (μ1 := μ) (a := 82) (as := [.int 59]) (st := []) ok_X8_isSign vi_X8_isSign ml_8_142 hcl_8 kd_82 dX8_readE_135 rfl rfl (Nat.le_of_ble_eq_true rfl) (Nat.le_of_ble_eq_true rfl) (by decide) (ct_X8_isSign (59) μ) ?_
  refine ev_ifeq_bi (tgt := 165) dX8_readE_138 rfl (fun c1 => ?_) (fun c1 => ?_)
  · have h2 := h.1 c1
    exact h2
  · have h3 := h.2 c1
    refine ev_aload_n dX8_readE_141 0 rfl (by decide) ?_
    refine ev_getI' (v := (μ 82 26)) fl_8_152 rfl kd_82 rfl dX8_readE_142 ?_
    refine ev_if_ne (tgt := 165) dX8_readE_145 rfl (fun c4 => ?_) (fun c4 => ?_)
    · have h5 := h3.1 c4
      exact h5
    · have h6 := h3.2 c4
      refine ev_aload_n dX8_readE_148 0 rfl (by decide) ?_
      refine ev_iconst (v := 1) dX8_readE_149 rfl ?_
      have p7 := h6.1
      have h8 := h6.2
      refine e2_callVv (μ1 := (daM μ (1 : Int32))) (a := 82) (as := [.int 1]) (st := []) ok_X8_doAll vi_X8_doAll ml_8_155 hcl_8 kd_82 dX8_readE_150 rfl rfl (Nat.le_of_ble_eq_true rfl) (Nat.le_of_ble_eq_true rfl) (by decide) (ct_X8_doAll (1) μ p7) ?_
      refine ev_aload_n dX8_readE_153 0 rfl (by decide) ?_
      refine ev_getR' fl_8_165 rfl kd_82 rf_82_16 dX8_readE_154 ?_
      refine ev_iload_n dX8_readE_157 1 rfl ?_
      refine ev_aload_n dX8_readE_158 0 rfl (by decide) ?_
      refine ev_getI' (v := ((daM μ (1 : Int32)) 82 29)) fl_8_123 rfl kd_82 rfl dX8_readE_159 ?_
      have p9 := h8.1
      have h10 := h8.2
      refine ev_iastore' (j := x1.toNatClampNeg) kd_94 ln_94 p9 rfl dX8_readE_162 ?_
      refine ev_iconst (v := 1) dX8_readE_163 rfl ?_
      exact ev_ireturn dX8_readE_164 rfl rfl rfl rfl ⟨rfl, h10⟩
theorem sg_X8_readE_165 {G : GW} {K : Option Value → Mem → Prop} {μ : Mem} {x1 : Int32} {x2 x3 : Bool}  (h : (btP μ) ∧ (((btB μ) = false) → Ev2 G mX8_readE 4 199 [(0, .ref 82), (1, .int x1), (2, .int (bi x2)), (3, .int (bi x3))] [] (btM μ) K) ∧ (((btB μ) = true) → (((isKyM (btM μ) (4 : Int32)) = true) → Ev2 G mX8_readE 4 208 [(0, .ref 82), (1, .int x1), (2, .int 1), (3, .int 1)] [] (btM μ) K) ∧ (((isKyM (btM μ) (4 : Int32)) = false) → (((isKyM (btM μ) (3 : Int32)) = false) → Ev2 G mX8_readE 4 208 [(0, .ref 82), (1, .int x1), (2, .int 1), (3, .int 0)] [] (btM μ) K) ∧ (((isKyM (btM μ) (3 : Int32)) = true) → Ev2 G mX8_readE 4 208 [(0, .ref 82), (1, .int x1), (2, .int 1), (3, .int 1)] [] (btM μ) K)))) : Ev2 G mX8_readE 4 165 [(0, .ref 82), (1, .int x1), (2, .int (bi x2)), (3, .int (bi x3))] [] μ K := by
  refine ev_aload_n dX8_readE_165 0 rfl (by decide) ?_
  have p1 := h.1
  have h2 := h.2
  refine e2_callV (w := .int (bi (btB μ))) (μ1 := (btM μ)) (a := 82) (as := []) (st := []) ok_X8_between vi_X8_between ml_8_168 hcl_8 kd_82 dX8_readE_166 rfl rfl (Nat.le_of_ble_eq_true rfl) (Nat.le_of_ble_eq_true rfl) (by decide) (ct_X8_between μ p1) ?_
  refine ev_ifeq_bi (tgt := 199) dX8_readE_169 rfl (fun c3 => ?_) (fun c3 => ?_)
  · have h4 := h2.1 c3
    exact h4
  · have h5 := h2.2 c3
    refine ev_iconst (v := 1) dX8_readE_172 rfl ?_
    refine ev_istore_n (lv' := [(0, .ref 82), (1, .int x1), (2, .int 1), (3, .int (bi x3))]) dX8_readE_173 (by decide) [1, 2, 0, 3] rfl ?_
    refine ev_aload_n dX8_readE_174 0 rfl (by decide) ?_
    refine ev_iconst (v := 4) dX8_readE_175 rfl ?_
    refine e2_callV (w := .int (bi (isKyM (btM μ) (4 : Int32)))) (μ1 := (btM μ)) (a := 82) (as := [.int 4]) (st := []) ok_X8_isKey vi_X8_isKey ml_8_145 hcl_8 kd_82 dX8_readE_176 rfl rfl (Nat.le_of_ble_eq_true rfl) (Nat.le_of_ble_eq_true rfl) (by decide) (ct_X8_isKey (4) (btM μ)) ?_
    refine ev_ifne_bi (tgt := 190) dX8_readE_179 rfl (fun c6 => ?_) (fun c6 => ?_)
    · have h7 := h5.1 c6
      refine ev_iconst (v := 1) dX8_readE_190 rfl ?_
      refine ev_goto (tgt := 195) dX8_readE_191 rfl ?_
      refine ev_istore_n (lv' := [(0, .ref 82), (1, .int x1), (2, .int 1), (3, .int 1)]) dX8_readE_195 (by decide) [1, 2, 3, 0] rfl ?_
      refine ev_goto (tgt := 208) dX8_readE_196 rfl ?_
      exact h7
    · have h8 := h5.2 c6
      refine ev_aload_n dX8_readE_182 0 rfl (by decide) ?_
      refine ev_iconst (v := 3) dX8_readE_183 rfl ?_
      refine e2_callV (w := .int (bi (isKyM (btM μ) (3 : Int32)))) (μ1 := (btM μ)) (a := 82) (as := [.int 3]) (st := []) ok_X8_isKey vi_X8_isKey ml_8_145 hcl_8 kd_82 dX8_readE_184 rfl rfl (Nat.le_of_ble_eq_true rfl) (Nat.le_of_ble_eq_true rfl) (by decide) (ct_X8_isKey (3) (btM μ)) ?_
      refine ev_ifeq_bi (tgt := 194) dX8_readE_187 rfl (fun c9 => ?_) (fun c9 => ?_)
      · have h10 := h8.1 c9
        refine ev_iconst (v := 0) dX8_readE_194 rfl ?_
        refine ev_istore_n (lv' := [(0, .ref 82), (1, .int x1), (2, .int 1), (3, .int 0)]) dX8_readE_195 (by decide) [1, 2, 3, 0] rfl ?_
        refine ev_goto (tgt := 208) dX8_readE_196 rfl ?_
        exact h10
      · have h11 := h8.2 c9
        refine ev_iconst (v := 1) dX8_readE_190 rfl ?_
        refine ev_goto (tgt := 195) dX8_readE_191 rfl ?_
        refine ev_istore_n (lv' := [(0, .ref 82), (1, .int x1), (2, .int 1), (3, .int 1)]) dX8_readE_195 (by decide) [1, 2, 3, 0] rfl ?_
        refine ev_goto (tgt := 208) dX8_readE_196 rfl ?_
        exact h11
theorem sg_X8_readE_199 {G : GW} {K : Option Value → Mem → Prop} {μ : Mem} {x1 : Int32} {x2 x3 : Bool}  (h : (clP μ) ∧ (((clB μ) = true) → Ev2 G mX8_readE 4 208 [(0, .ref 82), (1, .int x1), (2, .int (bi x2)), (3, .int (bi x3))] [] (clM μ) K) ∧ (((clB μ) = false) → K (some (.int 0)) (clM μ))) : Ev2 G mX8_readE 4 199 [(0, .ref 82), (1, .int x1), (2, .int (bi x2)), (3, .int (bi x3))] [] μ K := by
  refine ev_aload_n dX8_readE_199 0 rfl (by decide) ?_
  have p1 := h.1
  have h2 := h.2
  refine e2_callV (w := .int (bi (clB μ))) (μ1 := (clM μ)) (a := 82) (as := []) (st := []) ok_X8_closes vi_X8_closes ml_8_172 hcl_8 kd_82 dX8_readE_200 rfl rfl (Nat.le_of_ble_eq_true rfl) (Nat.le_of_ble_eq_true rfl) (by decide) (ct_X8_closes μ p1) ?_
  refine ev_ifne_bi (tgt := 208) dX8_readE_203 rfl (fun c3 => ?_) (fun c3 => ?_)
  · have h4 := h2.1 c3
    exact h4
  · have h5 := h2.2 c3
    refine ev_iconst (v := 0) dX8_readE_206 rfl ?_
    exact ev_ireturn dX8_readE_207 rfl rfl rfl rfl ⟨rfl, h5⟩
theorem sg_X8_readE_208 {G : GW} {K : Option Value → Mem → Prop} {μ : Mem} {x1 : Int32} {x2 x3 : Bool}  (h : (nxP μ) ∧ ∀ μ3 : Mem, (nxR μ μ3) → Ev2 G mX8_readE 4 40 [(0, .ref 82), (1, .int x1), (2, .int (bi x2)), (3, .int (bi x3))] [] μ3 K) : Ev2 G mX8_readE 4 208 [(0, .ref 82), (1, .int x1), (2, .int (bi x2)), (3, .int (bi x3))] [] μ K := by
  refine ev_aload_n dX8_readE_208 0 rfl (by decide) ?_
  have p1 := h.1
  have h2 := h.2
  refine e2_callVrv (Rl := fun μ3 => nxR μ μ3) (a := 82) (as := []) (st := []) ok_X8_next vi_X8_next ml_8_175 hcl_8 kd_82 dX8_readE_209 rfl rfl (Nat.le_of_ble_eq_true rfl) (Nat.le_of_ble_eq_true rfl) (by decide) (ct_X8_next μ p1) (fun μ3 r4 => ?_)
  have h5 := h2 μ3 r4
  refine ev_goto (tgt := 40) dX8_readE_212 rfl ?_
  exact h5
def reK (f : Nat → Int32) (n row : Nat) (R : Bool × Nat × List Int32) (μ : Mem) (v : Option Value) (ν : Mem) : Prop := ∃ x, v = some (.int x) ∧ reL f n row R μ x ν
theorem lp_X8_re208 {G : GW} {K : Option Value → Mem → Prop} {f : Nat → Int32} {n row i : Nat} {μ0 ν : Mem} {W C : List Int32} {cs : List Bool} {w m : Bool} (hB : BS f n μ0) (hf : fR row μ0 ν) (hs : SI f n row (i + 1) W C cs ν) (h17 : ν 82 17 = nI (plT f n (i + 1))) (hk : ∀ ξ, fR row μ0 ξ → SI f n row (i + 1) W C cs ξ → TKV f n (i + 1) ξ → Ev2 G mX8_readE 4 40 [(0, .ref 82), (1, .int (nI row)), (2, .int (bi w)), (3, .int (bi m))] [] ξ K) : Ev2 G mX8_readE 4 208 [(0, .ref 82), (1, .int (nI row)), (2, .int (bi w)), (3, .int (bi m))] [] ν K := by
  have hBν := hB.fr hf
  refine sg_X8_readE_208 ⟨hBν.nx h17, fun ξ hξ => ?_⟩
  obtain ⟨g1, g2⟩ := hBν.tk h17 hξ
  exact hk ξ (hf.f4 g1) ⟨hs.1.fr g1, hs.2⟩ g2
theorem tokT_c {k : Int32} (h20 : ¬ k = 20) (hn : inB k 6 11 = false) : ¬ tokT k = 1 ∧ ¬ tokT k = 2 := by
  unfold tokT
  rw [if_neg h20, if_neg (by rw [hn]; decide)]
  split
  · decide
  · split
    · decide
    · split <;> decide
theorem ah_I {k : Int32} {μ : Mem} (h : sgF k μ) (m : Bool) : ahI μ (bi m) = (decide (k = 12) || (decide (k = 16) || (m && decide (k = 5)))) := by
  have k5 : isKyM μ 5 = decide (k = 5) := h.2 5 (by omega)
  unfold ahI
  rw [h.1.1, h.1.2.2.2.2.1, k5]
  cases m <;> rfl
theorem fE.tk {row : Nat} {μ ν : Mem} (h : fE row μ ν) (k : Nat) (hk : 17 ≤ k ∧ k ≤ 20) : ν 82 k = μ 82 k := h 82 k (by omega) (by omega) (by omega) (by omega) (by omega)
theorem lp_X8_reNum {G : GW} {K : Option Value → Mem → Prop} {f : Nat → Int32} {n row i : Nat} (hrow : row < 18) {μ0 ν : Mem} {W C : List Int32} {cs : List Bool} {m : Bool} (hB : BS f n μ0) (hf : fR row μ0 ν) (hs : SI f n row i W C cs ν) (ht : TKV f n i ν) (h21 : tkT f n i ≠ 21) (sym : Int32) (hk : ∀ ξ, fR row μ0 ξ → SI f n row (i + 1) (dA 7 W (C ++ [sym])).1 (dA 7 W (C ++ [sym])).2 cs ξ → TKV f n (i + 1) ξ → Ev2 G mX8_readE 4 40 [(0, .ref 82), (1, .int (nI row)), (2, .int (bi false)), (3, .int (bi m))] [] ξ K) : emP ν ∧ daP (emM ν (codeK sym)) ∧ Ev2 G mX8_readE 4 208 [(0, .ref 82), (1, .int (nI row)), (2, .int 0), (3, .int (bi m))] [] (daM (emM ν (codeK sym)) 7) K := by
  obtain ⟨s1, s2, s3, s4, s5⟩ := hs
  obtain ⟨p1, p2⟩ := tkT_lt h21
  have pn := plT_le f n (i + 1)
  have hn := hB.1
  obtain ⟨e1, e2, e3⟩ := s1.emit hrow (by omega) sym
  have hlen : W.length + (C ++ [sym]).length ≤ 160 := by
    rw [List.length_append]
    show W.length + (C.length + 1) ≤ 160
    omega
  obtain ⟨d1, d2⟩ := e2.da hrow s3 hlen (r := 7) (by omega) (by omega)
  have e7 : (7 : Int32) = nI 7 := rfl
  refine ⟨e1, e2.dP hrow hlen, ?_⟩
  rw [e7]
  refine lp_X8_re208 (i := i) (w := false) hB ((hf.e e3).e d2) (W := (dA 7 W (C ++ [sym])).1) (C := (dA 7 W (C ++ [sym])).2) ⟨?_, ?_, fun x hx => s3 x (dA_mem _ _ x hx), ?_, by omega⟩ ?_ hk
  · rw [dA_nst (by omega)]
    exact d1
  · exact Nat.le_trans (dA_opn _ _) s2
  · rw [dA_sum, List.length_append]
    show W.length + (C.length + 1) ≤ i + 1
    omega
  · rw [d2.tk 17 (by omega), e3.tk 17 (by omega)]
    exact ht.1
theorem aw_opM {o : Nat} {μ : Mem} (h : μ 82 25 = nI o) : opM μ = mset μ 82 25 (nI (o + 1)) := by
  unfold opM
  rw [h, nI_1]
theorem lp_X8_readE {G : GW} {f : Nat → Int32} {n row : Nat} (hrow : row < 18) {μ0 : Mem} (hB : BS f n μ0) : ∀ (F i : Nat) (W C : List Int32) (cs : List Bool) (w m : Bool) (R : Bool × Nat × List Int32) (ν : Mem), syF (tkT f n) (nvT f n) F i W C cs w m = some R → SI f n row i W C cs ν → TKV f n i ν → fR row μ0 ν → Ev2 G mX8_readE 4 40 [(0, .ref 82), (1, .int (nI row)), (2, .int (bi w)), (3, .int (bi m))] [] ν (reK f n row R μ0) := by
  intro F
  induction F with
  | zero =>
    intro i W C cs w m R ν h
    rw [syF] at h
    cases h
  | succ F ih =>
    intro i W C cs w m R ν h hs ht hf
    obtain ⟨s1, s2, s3, s4, s5⟩ := hs
    have hs : SI f n row i W C cs ν := ⟨s1, s2, s3, s4, s5⟩
    obtain ⟨t1, t2, t3⟩ := ht
    have ht : TKV f n i ν := ⟨t1, t2, t3⟩
    have hR := tkT_R f n i
    have hsg := sg_is hR t3
    have pn := plT_le f n (i + 1)
    have hn := hB.1
    have hst := (stT_le f n i).2
    have hsti := (stT_le f n i).1
    generalize hk : tkT f n i = k at *
    have fail : R = (false, i, []) → ∃ x, some (Value.int 0) = some (.int x) ∧ reL f n row R μ0 x ν := fun e => ⟨0, rfl, by rw [e]; rfl, hf, fun q => (by rw [e] at q; cases q), fun _ => by rw [e]; exact t2⟩
    cases w with
    | true =>
      rw [syF, if_pos rfl, hk] at h
      by_cases c20 : k = 20
      · rw [if_pos c20] at h
        have h18 : ν 82 18 = 1 := by rw [t3.1, c20]; rfl
        obtain ⟨x, hx, ex⟩ := nv_range (hk.trans c20)
        have h19 : ν 82 19 = nI x := by
          rw [t3.2 (by rw [c20]; decide) (by rw [c20]; decide), c20, ← ex]
          rfl
        refine sg_X8_readE_40 (x2 := true) ⟨fun q => absurd q (by decide), fun _ => ⟨fun _ => ?_, fun q => absurd h18 q⟩⟩
        refine sg_X8_readE_60 ⟨fun q => absurd h18 q, fun _ => ?_⟩
        rw [h19, ← code_num hx, ← ex]
        exact lp_X8_reNum hrow hB hf hs ht (by rw [hk, c20]; decide) _ (fun ξ q1 q2 q3 => ih _ _ _ _ false m R ξ h q2 q3 q1)
      · rw [if_neg c20] at h
        by_cases cn : inB k 6 11 = true
        · rw [if_pos cn] at h
          have h18 : ν 82 18 = 2 := by
            rw [t3.1]
            unfold tokT
            rw [if_neg c20, if_pos cn]
          have hb := inB_t.mp cn
          have n21 : ¬ k = 21 := fun e => by rw [e] at hb; exact absurd hb.2 (by decide)
          have n22 : ¬ k = 22 := fun e => by rw [e] at hb; exact absurd hb.2 (by decide)
          have h19 : ν 82 19 = codeK k := by
            rw [t3.2 n21 n22, code_name cn]
            unfold tokW
            rw [if_neg c20, if_pos cn]
          refine sg_X8_readE_40 (x2 := true) ⟨fun q => absurd q (by decide), fun _ => ⟨fun q => by rw [h18] at q; exact absurd q (by decide), fun _ => ⟨fun q => absurd h18 q, fun _ => ?_⟩⟩⟩
          refine sg_X8_readE_60 ⟨fun _ => ?_, fun q => by rw [h18] at q; exact absurd q (by decide)⟩
          rw [h19]
          exact lp_X8_reNum hrow hB hf hs ht (by rw [hk]; exact n21) _ (fun ξ q1 q2 q3 => ih _ _ _ _ false m R ξ h q2 q3 q1)
        · rw [if_neg cn] at h
          have cn' : inB k 6 11 = false := by simpa using cn
          obtain ⟨n1, n2⟩ := tokT_c c20 cn'
          rw [← t3.1] at n1 n2
          refine sg_X8_readE_40 (x2 := true) ⟨fun q => absurd q (by decide), fun _ => ⟨fun q => absurd q n1, fun _ => ⟨fun _ => ?_, fun q => absurd q n2⟩⟩⟩
          refine sg_X8_readE_96 (x2 := true) ⟨fun q => absurd q (by decide), fun _ => ?_⟩
          have hq5 := nst_opn W
          have aP : ahP ν := by
            refine ⟨(s1.awa (by omega) 0).1, Or.inl ?_⟩
            rw [s1.2.2.2.1, nI_1]
            exact vp_nI (by omega) (by omega)
          have eI := ah_I hsg m
          have h25 : ν 82 25 = nI (opnN W) := s1.2.2.1
          have s16 := hsg.1.2.2.2.2.1
          have s12 := hsg.1.1
          refine sg_X8_readE_100 (x2 := true) ⟨aP, ?_⟩
          by_cases c5 : opnN W = 5
          · rw [if_pos c5] at h
            have e : ahB ν (bi m) = false := by
              unfold ahB
              rw [h25, c5, decide_eq_true (show nI 5 = 5 from rfl), Bool.not_true, Bool.and_false]
            refine ⟨fun q => (by rw [e] at q; cases q), fun _ => ?_⟩
            unfold ahM
            rw [e]
            exact fail (Option.some.inj h).symm
          · rw [if_neg c5] at h
            have n5 : ¬ ν 82 25 = 5 := by
              rw [h25]
              exact nI_ne (b := 5) (by omega) (by omega) c5
            have eB : ahB ν (bi m) = ahI ν (bi m) := by
              unfold ahB
              rw [decide_eq_false n5, Bool.not_false, Bool.and_true]
            have m1 := s1.open_ (opnN W + 1)
            have fo : fE row ν (opM ν) := by rw [aw_opM h25]; exact fE.s82 (by omega)
            rw [← aw_opM h25] at m1
            have h21 : ¬ k = 21 → plT f n i + 1 ≤ plT f n (i + 1) := fun q => (tkT_lt (by rw [hk]; exact q)).2
            by_cases c12 : k = 12
            · rw [if_pos c12] at h
              have e : ahB ν (bi m) = true := by rw [eB, eI, decide_eq_true c12]; rfl
              have hp := h21 (by rw [c12]; decide)
              obtain ⟨-, a1, a2⟩ := m1.awa (by omega) 12
              have a3 := a1.nest
              have eN : ahM ν (bi m) = neM (awM (opM ν) 30) := by
                unfold ahM
                rw [e, s12, decide_eq_true c12]
                rfl
              have ew : wK 12 = 30 := rfl
              rw [ew] at a1 a2 a3
              have eM : neM (awM (opM ν) 30) = mset (mset (awM (opM ν) 30) 82 26 (nI (nstN W + 1))) 98 (nstN W + 1) 0 := by
                unfold neM
                rw [a1.2.2.2.1, nI_1, ix_nI (by omega)]
              rw [e, eN, eM, s16, decide_eq_false (show ¬ k = 16 by rw [c12]; decide)]
              have fx : fE row ν (mset (mset (awM (opM ν) 30) 82 26 (nI (nstN W + 1))) 98 (nstN W + 1) 0) := ((fo.tr a2).tr (fE.s82 (by omega))).tr fE.s98
              refine ⟨fun _ => ⟨fun q => (by cases q), fun _ => ?_⟩, fun q => (by cases q)⟩
              refine lp_X8_re208 (i := i) (w := true) (m := true) hB (hf.e fx) (W := 12 :: W) (C := C) (cs := false :: cs) ⟨?_, ?_, fun x hx => ?_, ?_, by omega⟩ ?_ (fun ξ q1 q2 q3 => ih _ _ _ _ true true R ξ h q2 q3 q1)
              · exact a3
              · show opnN W + 1 ≤ 5
                omega
              · rcases List.mem_cons.mp hx with rfl | hx
                · exact Or.inl rfl
                · exact s3 x hx
              · rw [List.length_cons]
                omega
              · rw [fx.tk 17 (by omega)]
                exact t1
            · rw [if_neg c12] at h
              have f12 : isSgM ν 40 = false := by rw [s12, decide_eq_false c12]
              by_cases c16 : k = 16
              · rw [if_pos c16] at h
                have e : ahB ν (bi m) = true := by rw [eB, eI, decide_eq_false c12, decide_eq_true c16]; rfl
                have hp := h21 (by rw [c16]; decide)
                obtain ⟨-, a1, a2⟩ := m1.awa (by omega) 23
                have n3 : ¬ ν 82 18 = 3 := by rw [t3.1, c16]; decide
                have eN : ahM ν (bi m) = awM (opM ν) 18 := by
                  unfold ahM
                  rw [e, if_pos rfl, if_neg (by rw [f12]; decide), if_neg n3]
                have ew : wK 23 = 18 := rfl
                rw [ew] at a1 a2
                rw [e, eN, s16, decide_eq_true c16]
                have fx : fE row ν (awM (opM ν) 18) := fo.tr a2
                refine ⟨fun _ => ⟨fun _ => ?_, fun q => (by cases q)⟩, fun q => (by cases q)⟩
                refine lp_X8_re208 (i := i) (w := true) (m := false) hB (hf.e fx) (W := 23 :: W) (C := C) (cs := cs) ⟨?_, ?_, fun x hx => ?_, ?_, by omega⟩ ?_ (fun ξ q1 q2 q3 => ih _ _ _ _ true false R ξ h q2 q3 q1)
                · exact a1
                · show opnN W + 1 ≤ 5
                  omega
                · rcases List.mem_cons.mp hx with rfl | hx
                  · exact Or.inr (Or.inr (Or.inl rfl))
                  · exact s3 x hx
                · rw [List.length_cons]
                  omega
                · rw [fx.tk 17 (by omega)]
                  exact t1
              · rw [if_neg c16] at h
                by_cases c55 : m = true ∧ k = 5
                · rw [if_pos c55] at h
                  have e : ahB ν (bi m) = true := by rw [eB, eI, decide_eq_false c12, decide_eq_false c16, c55.1, decide_eq_true c55.2]; rfl
                  have hp := h21 (by rw [c55.2]; decide)
                  obtain ⟨-, a1, a2⟩ := m1.awa (by omega) 5
                  have n3 : ν 82 18 = 3 := by rw [t3.1, c55.2]; decide
                  have eN : ahM ν (bi m) = awM (opM ν) 12 := by
                    unfold ahM
                    rw [e, if_pos rfl, if_neg (by rw [f12]; decide), if_pos n3]
                  have ew : wK 5 = 12 := rfl
                  rw [ew] at a1 a2
                  rw [e, eN, s16, decide_eq_false c16]
                  have fx : fE row ν (awM (opM ν) 12) := fo.tr a2
                  refine ⟨fun _ => ⟨fun q => (by cases q), fun _ => ?_⟩, fun q => (by cases q)⟩
                  refine lp_X8_re208 (i := i) (w := true) (m := true) hB (hf.e fx) (W := 5 :: W) (C := C) (cs := cs) ⟨?_, ?_, fun x hx => ?_, ?_, by omega⟩ ?_ (fun ξ q1 q2 q3 => ih _ _ _ _ true true R ξ h q2 q3 q1)
                  · exact a1
                  · show opnN W + 1 ≤ 5
                    omega
                  · rcases List.mem_cons.mp hx with rfl | hx
                    · exact Or.inr (Or.inl rfl)
                    · exact s3 x hx
                  · rw [List.length_cons]
                    omega
                  · rw [fx.tk 17 (by omega)]
                    exact t1
                · rw [if_neg c55] at h
                  have e : ahB ν (bi m) = false := by
                    rw [eB, eI, decide_eq_false c12, decide_eq_false c16]
                    cases m with
                    | false => rfl
                    | true =>
                      rw [decide_eq_false (fun q => c55 ⟨rfl, q⟩)]
                      rfl
                  refine ⟨fun q => (by rw [e] at q; cases q), fun _ => ?_⟩
                  unfold ahM
                  rw [e]
                  exact fail (Option.some.inj h).symm
    | false =>
      rw [syF, if_neg (by decide), hk] at h
      refine sg_X8_readE_40 (x2 := false) ⟨fun _ => ?_, fun q => absurd q (by decide)⟩
      refine sg_X8_readE_96 (x2 := false) ⟨fun _ => ?_, fun q => absurd q (by decide)⟩
      have s14 := hsg.1.2.2.1
      have h26 : ν 82 26 = nI (nstN W) := s1.2.2.2.1
      have hq5 := nst_opn W
      have h26z : ν 82 26 = 0 ↔ nstN W = 0 := by
        rw [h26]
        exact nI_eq (b := 0) (by omega) (by omega)
      have hstn : ¬ k = 21 → stT f n i < n ∧ plT f n i + 1 ≤ plT f n (i + 1) := fun q => tkT_lt (by rw [hk]; exact q)
      by_cases c14 : k = 14 ∧ nstN W = 0
      · rw [if_pos c14] at h
        have eR : R = (true, i, (dA 1 W C).2) := (Option.some.inj h).symm
        have hp := hstn (by rw [c14.1]; decide)
        obtain ⟨d1, d2⟩ := s1.da hrow s3 (by omega) (r := 1) (by omega) (by omega)
        refine sg_X8_readE_132 (x2 := false) ⟨fun q => (by rw [s14, decide_eq_true c14.1] at q; cases q), fun _ => ⟨fun q => absurd (h26z.mpr c14.2) q, fun _ => ⟨s1.dP hrow (by omega), vp_nI hrow (by omega), ?_⟩⟩⟩
        rw [ix_nI (by omega)]
        have e1 : (1 : Int32) = nI 1 := rfl
        refine ⟨1, rfl, by rw [eR]; rfl, ?_, fun _ => ⟨?_, fun k hk => ?_, ?_⟩, fun q => (by rw [eR] at q; cases q)⟩
        · intro a k e1' e2 e3 e4 e5
          rw [mset_other (by omega)]
          exact (hf.e d2) a k e1' e2 e3 e4 e5
        · rw [mset_same, eR]
          exact d1.1.2.1
        · rw [eR] at hk ⊢
          rw [mset_ne (by omega)]
          exact d1.1.2.2 k hk
        · rw [mset_ne (by omega), eR]
          exact (d2.tk 17 (by omega)).trans t1
      · rw [if_neg c14] at h
        have to165 : Ev2 G mX8_readE 4 165 [(0, .ref 82), (1, .int (nI row)), (2, .int (bi false)), (3, .int (bi m))] [] ν (reK f n row R μ0) → Ev2 G mX8_readE 4 132 [(0, .ref 82), (1, .int (nI row)), (2, .int (bi false)), (3, .int (bi m))] [] ν (reK f n row R μ0) := fun q => sg_X8_readE_132 (x2 := false) ⟨fun _ => q, fun z => ⟨fun _ => q, fun z2 => absurd ⟨of_decide_eq_true (s14.symm.trans z), h26z.mp z2⟩ c14⟩⟩
        refine to165 ?_
        obtain ⟨c, cs', rfl⟩ : ∃ c cs', cs = c :: cs' := by
          cases cs with
          | nil => exact absurd s1.2.2.2.2.1 (by simp)
          | cons c cs' => exact ⟨c, cs', rfl⟩
        have hc98 : ν 98 (nstN W) = bi c := s1.top
        obtain ⟨b1, b2⟩ := bt_o hsg
        have n8 : n8P ν := by unfold n8P; rw [h26]; exact vp_nI (by omega) (by omega)
        have dP := s1.dP hrow (by omega)
        have eb : ν 98 (ν 82 26).toNatClampNeg = bi c := by rw [h26, ix_nI (by omega)]; exact hc98
        by_cases cop : opB k = true ∧ ¬ (rkI k = 4 ∧ (c :: cs').headD false = true)
        · rw [if_pos cop] at h
          obtain ⟨k1, k2⟩ := cop
          have k2 : ¬ (rkI k = 4 ∧ c = true) := k2
          have hp := hstn (fun e => by rw [e] at k1; exact absurd k1 (by decide))
          obtain ⟨g1, g2, g3, g4, g5⟩ := (op_tab (Or.inr (Or.inr (Or.inr k1)))).2 (fun e => by rw [e] at k1; exact absurd k1 (by decide))
          have eO := b1 k1
          have eB : btB ν = true := by
            unfold btB
            rw [eO, eb, g2]
            have n1 : ¬ codeK k = -1 := by
              rcases opB_c k1 with rfl | rfl | rfl | rfl | rfl | rfl | rfl <;> decide
            rw [decide_eq_false n1]
            by_cases r4 : rkI k = 4
            · have : c = false := by
                cases c with
                | false => rfl
                | true => exact absurd ⟨r4, rfl⟩ k2
              rw [this]
              simp [bi]
            · have : ¬ nI (rkI k) = 4 := fun z => r4 ((nI_eq (b := 4) (by omega) (by omega)).mp z)
              rw [decide_eq_false this]
              rfl
          obtain ⟨d1, d2⟩ := s1.da hrow s3 (by omega) (r := rkI k) g4 g3
          have hsum := dA_sum (rkI k) W C
          obtain ⟨a0, a1, a2⟩ := d1.awa (by omega) k
          rw [g1] at a1 a2
          have a3 := a1.cmp (nextC (rkI k) c)
          have e26 : awM (daM ν (nI (rkI k))) (codeK k) 82 26 = nI (nstN W) := a1.2.2.2.1
          have eM : btM ν = mset (awM (daM ν (nI (rkI k))) (codeK k)) 98 (nstN W) (bi (nextC (rkI k) c)) := by
            unfold btM
            rw [eB, if_pos rfl, eO, g2]
            unfold cmM
            rw [e26, ix_nI (by omega), g2, a1.top]
            congr 1
            unfold nextC
            by_cases r4 : rkI k = 4
            · rw [r4, if_pos (show nI 4 = 4 from rfl)]
              rfl
            · have n4 : ¬ nI (rkI k) = 4 := fun z => r4 ((nI_eq (b := 4) (by omega) (by omega)).mp z)
              rw [if_neg n4, decide_eq_false r4]
              by_cases l4 : rkI k ≤ 4
              · have : nI (rkI k) ≤ 4 := nI_le (b := 4) l4 (by omega)
                rw [if_pos this, decide_eq_false (by omega)]
                rfl
              · have : ¬ nI (rkI k) ≤ 4 := nI_ge (a := 4) (by omega) (by omega)
                rw [if_neg this, decide_eq_true (by omega)]
                cases c <;> rfl
          have bP : btP ν := by
            refine ⟨dP, n8, fun _ => ?_⟩
            rw [eO, g2]
            refine ⟨a0, ?_⟩
            unfold n8P
            rw [e26]
            exact vp_nI (by omega) (by omega)
          have fx : fE row ν (mset (awM (daM ν (nI (rkI k))) (codeK k)) 98 (nstN W) (bi (nextC (rkI k) c))) := (d2.tr a2).tr fE.s98
          have eK : ∀ v, isKyM (btM ν) v = isKyM ν v := fun v => by
            rw [eM]
            unfold isKyM
            rw [fx.tk 18 (by omega), fx.tk 19 (by omega)]
          have k4 : isKyM ν 4 = decide (k = 4) := hsg.2 4 (by omega)
          have k3 : isKyM ν 3 = decide (k = 3) := hsg.2 3 (by omega)
          have go : ∀ m' : Bool, m' = (decide (k = 4) || decide (k = 3)) → Ev2 G mX8_readE 4 208 [(0, .ref 82), (1, .int (nI row)), (2, .int 1), (3, .int (bi m'))] [] (btM ν) (reK f n row R μ0) := by
            intro m' hm'
            rw [eM]
            refine lp_X8_re208 (i := i) (w := true) (m := m') hB (hf.e fx) (W := k :: (dA (rkI k) W C).1) (C := (dA (rkI k) W C).2) (cs := nextC (rkI k) c :: cs') ⟨?_, ?_, fun x hx => ?_, ?_, by omega⟩ ?_ (fun ξ q1 q2 q3 => ih _ _ _ _ true m' R ξ (by rw [hm']; exact h) q2 q3 q1)
            · have en : nstN (k :: (dA (rkI k) W C).1) = nstN W := by
                show nstN (dA (rkI k) W C).1 + (if k = 12 then 1 else 0) = nstN W
                rw [if_neg (fun e => by rw [e] at k1; exact absurd k1 (by decide)), dA_nst g4]
                rfl
              rw [opn_op k1, en]
              exact a3
            · rw [opn_op k1]
              exact Nat.le_trans (dA_opn _ _) s2
            · rcases List.mem_cons.mp hx with rfl | hx
              · exact Or.inr (Or.inr (Or.inr k1))
              · exact s3 x (dA_mem _ _ x hx)
            · rw [List.length_cons]
              omega
            · rw [fx.tk 17 (by omega)]
              exact t1
          refine sg_X8_readE_165 (x2 := false) ⟨bP, fun q => (by rw [eB] at q; cases q), fun _ => ⟨fun z => ?_, fun z => ⟨fun z2 => ?_, fun z2 => ?_⟩⟩⟩
          · rw [eK, k4] at z
            exact go true (by rw [z]; rfl)
          · rw [eK, k4] at z
            rw [eK, k3] at z2
            exact go false (by rw [z, z2]; rfl)
          · rw [eK, k4] at z
            rw [eK, k3] at z2
            exact go true (by rw [z, z2]; rfl)
        · rw [if_neg cop] at h
          have eB : btB ν = false := by
            unfold btB
            cases ho : opB k with
            | false =>
              rw [b2 ho]
              rfl
            | true =>
              have hc4 : rkI k = 4 ∧ c = true := by
                by_cases z : rkI k = 4 ∧ c = true
                · exact z
                · exact absurd ⟨ho, z⟩ cop
              obtain ⟨g1, g2, -⟩ := (op_tab (Or.inr (Or.inr (Or.inr ho)))).2 (fun e => by rw [e] at ho; exact absurd ho (by decide))
              rw [b1 ho, g2, hc4.1, eb, hc4.2, decide_eq_true (show nI 4 = 4 from rfl), decide_eq_false (show ¬ bi true = 0 by decide), Bool.not_false, Bool.and_true, Bool.not_true, Bool.and_false]
          have bP : btP ν := ⟨dP, n8, fun q => (by rw [eB] at q; cases q)⟩
          have eM : btM ν = ν := by
            unfold btM
            rw [eB]
            rfl
          refine sg_X8_readE_165 (x2 := false) ⟨bP, fun _ => ?_, fun q => (by rw [eB] at q; cases q)⟩
          rw [eM]
          have s13 := hsg.1.2.1
          by_cases c13 : k = 13 ∧ ¬ nstN W = 0
          · rw [if_pos c13] at h
            have hp := hstn (by rw [c13.1]; decide)
            have eC : clB ν = true := by
              unfold clB
              rw [s13, decide_eq_true c13.1, decide_eq_false (fun z => c13.2 (h26z.mp z))]
              rfl
            obtain ⟨d1, d2⟩ := s1.da hrow s3 (by omega) (r := 1) (by omega) (by omega)
            have hsum := dA_sum 1 W C
            have hnst := dA_nst (r := 1) (by omega) W C
            have htop := dA_tp (r := 1) W C
            have hmem := dA_mem (r := 1) W C
            have hopn := dA_opn (r := 1) W C
            generalize (dA 1 W C).2 = C1 at *
            generalize (dA 1 W C).1 = W1 at *
            obtain ⟨W2, rfl⟩ : ∃ W2, W1 = 12 :: W2 := by
              cases W1 with
              | nil => exact absurd hnst.symm c13.2
              | cons x W2 =>
                have hx : opW x := s3 x (hmem x List.mem_cons_self)
                have hr0 := htop x rfl
                by_cases e12 : x = 12
                · exact ⟨W2, by rw [e12]⟩
                · have := ((op_tab hx).2 e12).2.2.2.1
                  omega
            have enst : nstN W = nstN W2 + 1 := hnst.symm
            have eopn : opnN (12 :: W2) = opnN W2 + 1 := rfl
            rw [List.length_cons] at hsum
            have e1 : (1 : Int32) = nI 1 := rfl
            have e7 : (7 : Int32) = nI 7 := rfl
            obtain ⟨p1, p2, p3⟩ := d1.pop
            rw [enst] at p1
            have p4 := (p1.unnest).open_ (opnN W2)
            have eN : clN1 (daM ν (nI 1)) = mset (mset (mset (daM ν (nI 1)) 82 24 (nI W2.length)) 82 26 (nI (nstN W2))) 82 25 (nI (opnN W2)) := by
              unfold clN1
              rw [p3, d1.2.2.2.1, d1.2.2.1, enst, eopn, nI_m1 (by omega), nI_m1 (by omega), nI_m1 (by omega)]
              rfl
            have fx1 : fE row ν (clN1 (daM ν (nI 1))) := by
              rw [eN]
              exact ((d2.tr (fE.s82 (by omega))).tr (fE.s82 (by omega))).tr (fE.s82 (by omega))
            rw [← eN] at p4
            have o2 : ∀ x, x ∈ W2 → opW x := fun x hx => s3 x (hmem x (List.mem_cons_of_mem _ hx))
            obtain ⟨d3, d4⟩ := p4.da hrow o2 (by omega) (r := 7) (by omega) (by omega)
            have cP : clP ν := ⟨dP, fun _ => p4.dP hrow (by omega)⟩
            have eM2 : clM ν = daM (clN1 (daM ν (nI 1))) (nI 7) := by
              unfold clM
              rw [eC]
              rfl
            refine sg_X8_readE_199 (x2 := false) ⟨cP, fun _ => ?_, fun q => (by rw [eC] at q; cases q)⟩
            rw [eM2]
            have fx := fx1.tr d4
            refine lp_X8_re208 (i := i) (w := false) (m := m) hB (hf.e fx) (W := (dA 7 W2 C1).1) (C := (dA 7 W2 C1).2) (cs := cs') ⟨?_, ?_, fun x hx => o2 x (dA_mem _ _ x hx), ?_, by omega⟩ ?_ (fun ξ q1 q2 q3 => ih _ _ _ _ false m R ξ h q2 q3 q1)
            · rw [dA_nst (by omega)]
              exact d3
            · have := dA_opn (r := 7) W2 C1
              omega
            · rw [dA_sum]
              omega
            · rw [fx.tk 17 (by omega)]
              exact t1
          · rw [if_neg c13] at h
            have eC : clB ν = false := by
              unfold clB
              rw [s13]
              by_cases z : k = 13
              · have z2 : nstN W = 0 := by
                  rcases Nat.eq_zero_or_pos (nstN W) with q | q
                  · exact q
                  · exact absurd ⟨z, by omega⟩ c13
                rw [decide_eq_true (h26z.mpr z2), Bool.not_true, Bool.and_false]
              · rw [decide_eq_false z]
                rfl
            have cP : clP ν := ⟨dP, fun q => (by rw [eC] at q; cases q)⟩
            have eM2 : clM ν = ν := by
              unfold clM
              rw [eC]
              rfl
            refine sg_X8_readE_199 (x2 := false) ⟨cP, fun q => (by rw [eC] at q; cases q), fun _ => ?_⟩
            rw [eM2]
            exact fail (Option.some.inj h).symm
theorem ct_X8_readE {G : GW} {f : Nat → Int32} {n i : Nat} {R : Bool × Nat × List Int32} (hR : EN (tkT f n) (nvT f n) i [] [] [false] true true R) (x1 : Int32) (μ : Mem) (hp : rePr f n i μ x1) : Ev2 G mX8_readE 4 0 [(0, .ref 82), (1, .int x1)] [] μ (fun v μ' => ∃ x, v = some (.int x) ∧ reL f n x1.toNatClampNeg R μ x μ') := by
  obtain ⟨row, hrow, rfl, hB, ht, hi⟩ := hp
  obtain ⟨F, hF⟩ := hR
  rw [ix_nI (by omega)]
  refine sg_X8_readE_0 ?_
  have e160 : 160 * nI row = nI (160 * row) := by
    rw [show (160 : Int32) = nI 160 from rfl, pk_mul]
  rw [e160]
  generalize hν : mset (mset (mset (mset (mset (mset μ 82 28 (nI (160 * row))) 82 29 0) 82 24 0) 82 25 0) 82 26 0) 98 0 0 = ν
  have fx : fE row μ ν := by
    rw [← hν]
    exact (((((fE.s82 (by omega)).tr (fE.s82 (by omega))).tr (fE.s82 (by omega))).tr (fE.s82 (by omega))).tr (fE.s82 (by omega))).tr fE.s98
  refine lp_X8_readE hrow hB F i [] [] [false] true true R ν hF ⟨⟨⟨?_, ?_, fun k hk => absurd hk (Nat.not_lt_zero k)⟩, ⟨?_, fun k hk => absurd hk (Nat.not_lt_zero k)⟩, ?_, ?_, rfl, fun k hk => ?_⟩, Nat.zero_le _, fun x hx => absurd hx List.not_mem_nil, Nat.zero_le _, hi⟩ ⟨?_, ?_, ?_⟩ ((fR.rf row μ).e fx)
  · rw [← hν, mset_ne (by omega), mset_other (by omega), mset_other (by omega), mset_other (by omega), mset_other (by omega), mset_same]
  · rw [← hν, mset_ne (by omega), mset_other (by omega), mset_other (by omega), mset_other (by omega), mset_same]
    rfl
  · rw [← hν, mset_ne (by omega), mset_other (by omega), mset_other (by omega), mset_same]
    rfl
  · rw [← hν, mset_ne (by omega), mset_other (by omega), mset_same]
    rfl
  · rw [← hν, mset_ne (by omega), mset_same]
    rfl
  · obtain rfl : k = 0 := by
      have : k < 1 := hk
      omega
    rw [← hν]
    exact mset_same
  · rw [fx.tk 17 (by omega)]; exact ht.1
  · rw [fx.tk 20 (by omega)]; exact ht.2.1
  · rw [fx.tk 18 (by omega), fx.tk 19 (by omega)]; exact ht.2.2
