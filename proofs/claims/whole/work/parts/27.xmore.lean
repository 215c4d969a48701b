/-! ===== the class: what may be told, sheets of soons ===== -/
theorem ev2_imp {G : GW} {M : MK} {d pc : Nat} {lv : List (Nat × Value)} {st : List Value} {μ : Mem} {K K' : Option Value → Mem → Prop} (h : Ev2 G M d pc lv st μ K) (hK : ∀ v μ', K v μ' → K' v μ') : Ev2 G M d pc lv st μ K' := h.imp (fun v _ μ' q => ⟨q.1, hK v μ' q.2⟩)
theorem vpB {x : Int32} {m : Nat} (hm : m < 2 ^ 30) (h : inB x 0 (nI m) = true) : vp_in x (m + 1) := by
  obtain ⟨p, hp, rfl⟩ := inB_nI (by omega) h
  exact vp_nI (by omega) (by omega)
theorem vp7 {x : Int32} (h : inB x 0 6 = true) : vp_in x 7 := vpB (m := 6) (by omega) h
theorem vp4 {x : Int32} (h : inB x 0 3 = true) : vp_in x 4 := vpB (m := 3) (by omega) h
theorem vpH {x : Int32} {n : Nat} (hn : n ≤ 7) (h : inB x 0 (nI n - 1) = true) : vp_in x 7 := by
  obtain ⟨p, hp, rfl⟩ := inB_lt (by omega) h
  exact vp_nI (by omega) (by omega)
theorem vpR {x : Int32} {n : Nat} (hn : n ≤ 4) (h : inB x 0 (nI n - 1) = true) : vp_in x 4 := by
  obtain ⟨p, hp, rfl⟩ := inB_lt (by omega) h
  exact vp_nI (by omega) (by omega)
def canF (μ : Mem) (v p told : Int32) : Bool := decide (0 ≤ v) && (decide (v / 10 ≤ 7) && (inB (irem v 10) 0 6 && (!decide (irem v 10 = p) && (decide (v / 10 = 7) || (inB (v / 10) 0 (μ 10 9 - 1) && (!bitB told (v / 10) && decide (goesF (μ (43 + (v / 10).toNatClampNeg) 0) (μ (43 + (v / 10).toNatClampNeg) 1) (μ (43 + (v / 10).toNatClampNeg) 2) (μ (43 + (v / 10).toNatClampNeg) 4) p = irem v 10)))))))
theorem sg_X7_canBe_0 {G : GW} {K : Option Value → Mem → Prop} {μ : Mem} {x1 x2 x3 : Int32}  (h : ((x1 < 0) → K (some (.int 0)) μ) ∧ ((¬ (x1 < 0)) → ((7 < (x1 / 10)) → K (some (.int 0)) μ) ∧ ((¬ (7 < (x1 / 10))) → (((inB (x1 - x1 / 10 * 10) 0 6) = false) → K (some (.int 0)) μ) ∧ (((inB (x1 - x1 / 10 * 10) 0 6) = true) → ((¬ (x1 - x1 / 10 * 10) = x2) → ((¬ (x1 / 10) = 7) → (((inB (x1 / 10) 0 (μ 10 9 - 1)) = false) → K (some (.int 0)) μ) ∧ (((inB (x1 / 10) 0 (μ 10 9 - 1)) = true) → (((bitB x3 (x1 / 10)) = true) → K (some (.int 0)) μ) ∧ (((bitB x3 (x1 / 10)) = false) → (vp_in (x1 / 10) 7) ∧ ((¬ (goesF (μ (43 + (x1 / 10).toNatClampNeg) 0) (μ (43 + (x1 / 10).toNatClampNeg) 1) (μ (43 + (x1 / 10).toNatClampNeg) 2) (μ (43 + (x1 / 10).toNatClampNeg) 4) x2) = (x1 - x1 / 10 * 10)) → K (some (.int 0)) μ) ∧ (((goesF (μ (43 + (x1 / 10).toNatClampNeg) 0) (μ (43 + (x1 / 10).toNatClampNeg) 1) (μ (43 + (x1 / 10).toNatClampNeg) 2) (μ (43 + (x1 / 10).toNatClampNeg) 4) x2) = (x1 - x1 / 10 * 10)) → K (some (.int 1)) μ)))) ∧ (((x1 / 10) = 7) → K (some (.int 1)) μ)) ∧ (((x1 - x1 / 10 * 10) = x2) → K (some (.int 0)) μ))))) : Ev2 G mX7_canBe 3 0 [(0, .ref 10), (1, .int x1), (2, .int x2), (3, .int x3)] [] μ K := by
  refine ev_iload_n dX7_canBe_0 1 rfl ?_
  refine ev_if_lt (tgt := 31) dX7_canBe_1 rfl (fun c1 => ?_) (fun c1 => ?_)
  · have h2 := h.1 c1
    refine ev_iconst (v := 0) dX7_canBe_31 rfl ?_
    exact ev_ireturn dX7_canBe_32 rfl rfl rfl rfl ⟨rfl, h2⟩
  · have h3 := h.2 c1
    refine ev_iload_n dX7_canBe_4 1 rfl ?_
    refine ev_bipush (v := 10) dX7_canBe_5 rfl ?_
    refine ev_idiv dX7_canBe_7 (by decide) ?_
    refine ev_bipush (v := 7) dX7_canBe_8 rfl ?_
    refine ev_icmp_gt (tgt := 31) dX7_canBe_10 rfl (fun c4 => ?_) (fun c4 => ?_)
    · have h5 := h3.1 c4
      refine ev_iconst (v := 0) dX7_canBe_31 rfl ?_
      exact ev_ireturn dX7_canBe_32 rfl rfl rfl rfl ⟨rfl, h5⟩
    · have h6 := h3.2 c4
      refine ev_iload_n dX7_canBe_13 1 rfl ?_
      refine ev_bipush (v := 10) dX7_canBe_14 rfl ?_
      refine ev_irem dX7_canBe_16 (by decide) ?_
      refine e2_callS (w := .int (bi (inB (x1 - x1 / 10 * 10) 0 6))) (μ1 := μ) (as := [.int (x1 - x1 / 10 * 10)]) (st := []) ok_X7_isPlace sv_X7_isPlace ml_7_94 dX7_canBe_17 rfl rfl (Nat.le_of_ble_eq_true rfl) (Nat.le_of_ble_eq_true rfl) (by decide) (ct_X7_isPlace ((x1 - x1 / 10 * 10)) μ) ?_
      refine ev_ifeq_bi (tgt := 31) dX7_canBe_20 rfl (fun c7 => ?_) (fun c7 => ?_)
      · have h8 := h6.1 c7
        refine ev_iconst (v := 0) dX7_canBe_31 rfl ?_
        exact ev_ireturn dX7_canBe_32 rfl rfl rfl rfl ⟨rfl, h8⟩
      · have h9 := h6.2 c7
        refine ev_iload_n dX7_canBe_23 1 rfl ?_
        refine ev_bipush (v := 10) dX7_canBe_24 rfl ?_
        refine ev_irem dX7_canBe_26 (by decide) ?_
        refine ev_iload_n dX7_canBe_27 2 rfl ?_
        refine ev_icmp_ne (tgt := 33) dX7_canBe_28 rfl (fun c10 => ?_) (fun c10 => ?_)
        · have h11 := h9.1 c10
          refine ev_iload_n dX7_canBe_33 1 rfl ?_
          refine ev_bipush (v := 10) dX7_canBe_34 rfl ?_
          refine ev_idiv dX7_canBe_36 (by decide) ?_
          refine ev_istore (lv' := [(0, .ref 10), (1, .int x1), (2, .int x2), (3, .int x3), (4, .int (x1 / 10))]) dX7_canBe_37 (by decide) [1, 2, 3, 4, 0] rfl ?_
          refine ev_iload dX7_canBe_39 4 rfl ?_
          refine ev_bipush (v := 7) dX7_canBe_41 rfl ?_
          refine ev_icmp_ne (tgt := 48) dX7_canBe_43 rfl (fun c13 => ?_) (fun c13 => ?_)
          · have h14 := h11.1 c13
            refine ev_aload_n dX7_canBe_48 0 rfl (by decide) ?_
            refine ev_iload dX7_canBe_49 4 rfl ?_
            refine e2_callV (w := .int (bi (inB (x1 / 10) 0 (μ 10 9 - 1)))) (μ1 := μ) (a := 10) (as := [.int (x1 / 10)]) (st := []) ok_X7_isHorse vi_X7_isHorse ml_7_128 hcl_7 kd_10 dX7_canBe_51 rfl rfl (Nat.le_of_ble_eq_true rfl) (Nat.le_of_ble_eq_true rfl) (by decide) (ct_X7_isHorse ((x1 / 10)) μ) ?_
            refine ev_ifeq_bi (tgt := 88) dX7_canBe_54 rfl (fun c16 => ?_) (fun c16 => ?_)
            · have h17 := h14.1 c16
              refine ev_iconst (v := 0) dX7_canBe_88 rfl ?_
              exact ev_ireturn dX7_canBe_89 rfl rfl rfl rfl ⟨rfl, h17⟩
            · have h18 := h14.2 c16
              refine ev_iload_n dX7_canBe_57 3 rfl ?_
              refine ev_iload dX7_canBe_58 4 rfl ?_
              refine e2_callS (w := .int (bi (bitB x3 (x1 / 10)))) (μ1 := μ) (as := [.int x3, .int (x1 / 10)]) (st := []) ok_X7_isIn sv_X7_isIn ml_7_220 dX7_canBe_60 rfl rfl (Nat.le_of_ble_eq_true rfl) (Nat.le_of_ble_eq_true rfl) (by decide) (ct_X7_isIn (x3) ((x1 / 10)) μ) ?_
              refine ev_ifne_bi (tgt := 88) dX7_canBe_63 rfl (fun c19 => ?_) (fun c19 => ?_)
              · have h20 := h18.1 c19
                refine ev_iconst (v := 0) dX7_canBe_88 rfl ?_
                exact ev_ireturn dX7_canBe_89 rfl rfl rfl rfl ⟨rfl, h20⟩
              · have h21 := h18.2 c19
                refine ev_aload_n dX7_canBe_66 0 rfl (by decide) ?_
                refine ev_getR' fl_7_16 rfl kd_10 rf_10_1 dX7_canBe_67 ?_
                refine ev_iload dX7_canBe_70 4 rfl ?_
                have p22 := h21.1
                have h23 := h21.2
                refine ev_aaload' (k := 5) kd_19 (by omega) ln_19 p22 (raH p22) dX7_canBe_72 ?_
                refine ev_iload_n dX7_canBe_73 2 rfl ?_
                refine e2_callV (w := .int (goesF (μ (43 + (x1 / 10).toNatClampNeg) 0) (μ (43 + (x1 / 10).toNatClampNeg) 1) (μ (43 + (x1 / 10).toNatClampNeg) 2) (μ (43 + (x1 / 10).toNatClampNeg) 4) x2)) (μ1 := μ) (a := (43 + (x1 / 10).toNatClampNeg)) (as := [.int x2]) (st := []) ok_X0_goesFrom vi_X0_goesFrom ml_7_173 hcl_0 (kdHo (isH p22)) dX7_canBe_74 rfl rfl (Nat.le_of_ble_eq_true rfl) (Nat.le_of_ble_eq_true rfl) (by decide) (ct_X0_goesFrom (43 + (x1 / 10).toNatClampNeg) (isH p22) (x2) μ) ?_
                refine ev_iload_n dX7_canBe_77 1 rfl ?_
                refine ev_bipush (v := 10) dX7_canBe_78 rfl ?_
                refine ev_irem dX7_canBe_80 (by decide) ?_
                refine ev_icmp_ne (tgt := 88) dX7_canBe_81 rfl (fun c24 => ?_) (fun c24 => ?_)
                · have h25 := h23.1 c24
                  refine ev_iconst (v := 0) dX7_canBe_88 rfl ?_
                  exact ev_ireturn dX7_canBe_89 rfl rfl rfl rfl ⟨rfl, h25⟩
                · have h26 := h23.2 c24
                  refine ev_iconst (v := 1) dX7_canBe_84 rfl ?_
                  refine ev_goto (tgt := 89) dX7_canBe_85 rfl ?_
                  exact ev_ireturn dX7_canBe_89 rfl rfl rfl rfl ⟨rfl, h26⟩
          · have h15 := h11.2 c13
            refine ev_iconst (v := 1) dX7_canBe_46 rfl ?_
            exact ev_ireturn dX7_canBe_47 rfl rfl rfl rfl ⟨rfl, h15⟩
        · have h12 := h9.2 c10
          refine ev_iconst (v := 0) dX7_canBe_31 rfl ?_
          exact ev_ireturn dX7_canBe_32 rfl rfl rfl rfl ⟨rfl, h12⟩
theorem ct_X7_canBe {G : GW} (x1 x2 x3 : Int32) (μ : Mem) (hp : ∃ n, n ≤ 7 ∧ μ 10 9 = nI n) : Ev2 G mX7_canBe 3 0 [(0, .ref 10), (1, .int x1), (2, .int x2), (3, .int x3)] [] μ (fun v μ' => v = some (.int (bi (canF μ x1 x2 x3))) ∧ μ' = μ) := by
  obtain ⟨n, hn, hc⟩ := hp
  have hv : inB (x1 / 10) 0 (μ 10 9 - 1) = true → vp_in (x1 / 10) 7 := fun h => vpH hn (hc ▸ h)
  refine sg_X7_canBe_0 ?_
  clear hc
  repeat' (first | intro _ | apply And.intro)
  all_goals simp_all [canF, irem, vp_in, bi, ← Int32.not_lt]
def refF (μ : Mem) (s : Int32) : Int32 := if inB s 0 3 = true then (if μ (74 + 2 * s.toNatClampNeg) 1 = -1 then -11 else if μ (74 + 2 * s.toNatClampNeg) 2 = 7 then 0 else -2) else -2
theorem sg_X7_refusalOfSoons_0 {G : GW} {K : Option Value → Mem → Prop} {μ : Mem} {x1 : Int32}  (h : (((inB x1 0 3) = true) → (vp_in x1 4) ∧ (((decide (μ (74 + 2 * x1.toNatClampNeg) 1 = -1)) = false) → (vp_in x1 4) ∧ ((¬ (μ (74 + 2 * x1.toNatClampNeg) 2) = 7) → K (some (.int (-2))) μ) ∧ (((μ (74 + 2 * x1.toNatClampNeg) 2) = 7) → K (some (.int 0)) μ)) ∧ (((decide (μ (74 + 2 * x1.toNatClampNeg) 1 = -1)) = true) → K (some (.int (-11))) μ)) ∧ (((inB x1 0 3) = false) → K (some (.int (-2))) μ)) : Ev2 G mX7_refusalOfSoons 3 0 [(0, .ref 10), (1, .int x1)] [] μ K := by
  refine ev_iload_n dX7_refusalOfSoons_0 1 rfl ?_
  refine e2_callS (w := .int (bi (inB x1 0 3))) (μ1 := μ) (as := [.int x1]) (st := []) ok_X7_isSheet sv_X7_isSheet ml_7_229 dX7_refusalOfSoons_1 rfl rfl (Nat.le_of_ble_eq_true rfl) (Nat.le_of_ble_eq_true rfl) (by decide) (ct_X7_isSheet (x1) μ) ?_
  refine ev_ifne_bi (tgt := 10) dX7_refusalOfSoons_4 rfl (fun c1 => ?_) (fun c1 => ?_)
  · have h2 := h.1 c1
    refine ev_aload_n dX7_refusalOfSoons_10 0 rfl (by decide) ?_
    refine ev_getR' fl_7_56 rfl kd_10 rf_10_8 dX7_refusalOfSoons_11 ?_
    refine ev_iload_n dX7_refusalOfSoons_14 1 rfl ?_
    have p4 := h2.1
    have h5 := h2.2
    refine ev_aaload' (k := 7) kd_42 (by omega) ln_42 p4 (raS p4) dX7_refusalOfSoons_15 ?_
    refine e2_callV (w := .int (bi (decide (μ (74 + 2 * x1.toNatClampNeg) 1 = -1)))) (μ1 := μ) (a := (74 + 2 * x1.toNatClampNeg)) (as := []) (st := []) ok_X4_isMissing vi_X4_isMissing ml_7_232 hcl_4 (kdSh (isS p4)) dX7_refusalOfSoons_16 rfl rfl (Nat.le_of_ble_eq_true rfl) (Nat.le_of_ble_eq_true rfl) (by decide) (ct_X4_isMissing (74 + 2 * x1.toNatClampNeg) (isS p4) μ) ?_
    refine ev_ifeq_bi (tgt := 25) dX7_refusalOfSoons_19 rfl (fun c6 => ?_) (fun c6 => ?_)
    · have h7 := h5.1 c6
      refine ev_aload_n dX7_refusalOfSoons_25 0 rfl (by decide) ?_
      refine ev_getR' fl_7_56 rfl kd_10 rf_10_8 dX7_refusalOfSoons_26 ?_
      refine ev_iload_n dX7_refusalOfSoons_29 1 rfl ?_
      have p9 := h7.1
      have h10 := h7.2
      refine ev_aaload' (k := 7) kd_42 (by omega) ln_42 p9 (raS p9) dX7_refusalOfSoons_30 ?_
      refine ev_getI' (v := (μ (74 + 2 * x1.toNatClampNeg) 2)) fl_7_236 rfl (kdSh (isS p9)) rfl dX7_refusalOfSoons_31 ?_
      refine ev_bipush (v := 7) dX7_refusalOfSoons_34 rfl ?_
      refine ev_icmp_ne (tgt := 43) dX7_refusalOfSoons_36 rfl (fun c11 => ?_) (fun c11 => ?_)
      · have h12 := h10.1 c11
        refine ev_bipush (v := (-2)) dX7_refusalOfSoons_43 rfl ?_
        exact ev_ireturn dX7_refusalOfSoons_45 rfl True.intro rfl rfl ⟨rfl, h12⟩
      · have h13 := h10.2 c11
        refine ev_iconst (v := 0) dX7_refusalOfSoons_39 rfl ?_
        refine ev_goto (tgt := 45) dX7_refusalOfSoons_40 rfl ?_
        exact ev_ireturn dX7_refusalOfSoons_45 rfl True.intro rfl rfl ⟨rfl, h13⟩
    · have h8 := h5.2 c6
      refine ev_bipush (v := (-11)) dX7_refusalOfSoons_22 rfl ?_
      exact ev_ireturn dX7_refusalOfSoons_24 rfl True.intro rfl rfl ⟨rfl, h8⟩
  · have h3 := h.2 c1
    refine ev_bipush (v := (-2)) dX7_refusalOfSoons_7 rfl ?_
    exact ev_ireturn dX7_refusalOfSoons_9 rfl True.intro rfl rfl ⟨rfl, h3⟩
theorem ct_X7_refusalOfSoons {G : GW} (x1 : Int32) (μ : Mem) : Ev2 G mX7_refusalOfSoons 3 0 [(0, .ref 10), (1, .int x1)] [] μ (fun v μ' => v = some (.int (refF μ x1)) ∧ μ' = μ) := by
  have hv : inB x1 0 3 = true → vp_in x1 4 := fun h => vp4 h
  refine sg_X7_refusalOfSoons_0 ?_
  repeat' (first | intro _ | apply And.intro)
  all_goals simp_all [refF, vp_in, bi, ← Int32.not_lt]
def soB (f g : Nat → Int32) : Nat → Bool
  | 0 => true
  | n + 1 => soB f g n && decide (f n = g n)
theorem soB_no {f g : Nat → Int32} {i : Nat} (h : ¬ f i = g i) : ∀ n, i < n → soB f g n = false := by
  intro n
  induction n with
  | zero => intro q; omega
  | succ n ih =>
    intro q
    show (soB f g n && decide (f n = g n)) = false
    by_cases e : i = n
    · subst e
      simp [h]
    · rw [ih (by omega)]
      rfl
def isoF (μ : Mem) (a : Nat) (o : Nat) : Bool := soB (runV (goX μ) (tmX μ) (wX μ) (((1 <<< (μ 10 9 &&& 31)) - 1)) (-1) a 0) (fun p => numF μ o (nI p)) 7
theorem sg_X7_isSoFrom_0 {G : GW} {K : Option Value → Mem → Prop} {μ : Mem} {x1 : Int32} {r2 : Nat} (hr2 : isSh r2) (h : (vp_in x1 7 ∧ goOK (goX μ) ((((1 : Int32) <<< (μ 10 9 &&& 31)) - 1))) ∧ ∀ μ3 : Mem, (sameQ μ μ3 ∧ eq7 (get4 27 μ3) (runV (goX μ) (tmX μ) (wX μ) ((((1 : Int32) <<< (μ 10 9 &&& 31)) - 1)) (-1) x1.toNatClampNeg)) → Ev2 G mX7_isSoFrom 7 7 [(0, .ref 10), (2, .ref r2), (3, .int 0)] [] μ3 K) : Ev2 G mX7_isSoFrom 7 0 [(0, .ref 10), (1, .int x1), (2, .ref r2)] [] μ K := by
  refine ev_aload_n dX7_isSoFrom_0 0 rfl (by decide) ?_
  refine ev_iload_n dX7_isSoFrom_1 1 rfl ?_
  have p1 := h.1
  have h2 := h.2
  refine e2_callVrv (Rl := fun μ3 => sameQ μ μ3 ∧ eq7 (get4 27 μ3) (runV (goX μ) (tmX μ) (wX μ) ((((1 : Int32) <<< (μ 10 9 &&& 31)) - 1)) (-1) x1.toNatClampNeg)) (a := 10) (as := [.int x1]) (st := []) ok_X7_searchAll vi_X7_searchAll ml_7_223 hcl_7 kd_10 dX7_isSoFrom_2 rfl rfl (Nat.le_of_ble_eq_true rfl) (Nat.le_of_ble_eq_true rfl) (by decide) (ct_X7_searchAll (x1) μ p1) (fun μ3 r4 => ?_)
  have h5 := h2 μ3 r4
  refine ev_iconst (v := 0) dX7_isSoFrom_5 rfl ?_
  refine ev_istore_n (lv' := [(0, .ref 10), (1, .int x1), (2, .ref r2), (3, .int 0)]) dX7_isSoFrom_6 (by decide) [1, 2, 3, 0] rfl ?_
  refine EvW.less [0, 2, 3] (lv' := [(0, .ref 10), (2, .ref r2), (3, .int 0)]) rfl ?_
  exact h5
theorem sg_X7_isSoFrom_7 {G : GW} {K : Option Value → Mem → Prop} {μ : Mem} {r2 : Nat} {x3 : Int32} (hr2 : isSh r2) (h : ((7 ≤ x3) → K (some (.int 1)) μ) ∧ ((¬ (7 ≤ x3)) → (vp_in x3 7) ∧ (szOK μ r2) ∧ (((μ 27 x3.toNatClampNeg) = (numF μ r2 x3)) → Ev2 G mX7_isSoFrom 7 7 [(0, .ref 10), (2, .ref r2), (3, .int (x3 + 1))] [] μ K) ∧ ((¬ ((μ 27 x3.toNatClampNeg) = (numF μ r2 x3))) → K (some (.int 0)) μ))) : Ev2 G mX7_isSoFrom 7 7 [(0, .ref 10), (2, .ref r2), (3, .int x3)] [] μ K := by
  refine ev_iload_n dX7_isSoFrom_7 2 rfl ?_
  refine ev_bipush (v := 7) dX7_isSoFrom_8 rfl ?_
  refine ev_icmp_ge (tgt := 37) dX7_isSoFrom_10 rfl (fun c1 => ?_) (fun c1 => ?_)
  · have h2 := h.1 c1
    refine ev_iconst (v := 1) dX7_isSoFrom_37 rfl ?_
    exact ev_ireturn dX7_isSoFrom_38 rfl rfl rfl rfl ⟨rfl, h2⟩
  · have h3 := h.2 c1
    refine ev_aload_n dX7_isSoFrom_13 0 rfl (by decide) ?_
    refine ev_getR' fl_7_43 rfl kd_10 rf_10_6 dX7_isSoFrom_14 ?_
    refine ev_iload_n dX7_isSoFrom_17 2 rfl ?_
    have p4 := h3.1
    have h5 := h3.2
    refine e2_callV (w := .int (μ 27 x3.toNatClampNeg)) (μ1 := μ) (a := 26) (as := [.int x3]) (st := []) ok_X3_soonAt vi_X3_soonAt ml_7_256 hcl_3 kd_26 dX7_isSoFrom_18 rfl rfl (Nat.le_of_ble_eq_true rfl) (Nat.le_of_ble_eq_true rfl) (by decide) (ct_X3_soonAt (x3) μ p4) ?_
    refine ev_aload_n dX7_isSoFrom_21 1 rfl (nzSh hr2) ?_
    refine ev_iload_n dX7_isSoFrom_22 2 rfl ?_
    have p6 := h5.1
    have h7 := h5.2
    refine e2_callV (w := .int (numF μ r2 x3)) (μ1 := μ) (a := r2) (as := [.int x3]) (st := [.int (μ 27 x3.toNatClampNeg)]) ok_X4_numberAt vi_X4_numberAt ml_7_237 hcl_4 (kdSh hr2) dX7_isSoFrom_23 rfl rfl (Nat.le_of_ble_eq_true rfl) (Nat.le_of_ble_eq_true rfl) (by decide) (ct_X4_numberAt r2 hr2 (x3) μ p6) ?_
    refine ev_icmp_eq (tgt := 31) dX7_isSoFrom_26 rfl (fun c8 => ?_) (fun c8 => ?_)
    · have h9 := h7.1 c8
      refine ev_iinc (v := (x3 + 1)) (lv' := [(0, .ref 10), (2, .ref r2), (3, .int (x3 + 1))]) dX7_isSoFrom_31 2 rfl rfl (by decide) [1, 2, 0] rfl ?_
      refine ev_goto (tgt := 7) dX7_isSoFrom_34 rfl ?_
      exact h9
    · have h10 := h7.2 c8
      refine ev_iconst (v := 0) dX7_isSoFrom_29 rfl ?_
      exact ev_ireturn dX7_isSoFrom_30 rfl rfl rfl rfl ⟨rfl, h10⟩
theorem lp_X7_isSoFrom {G : GW} {o : Nat} (ho : isSh o) {ν : Mem} (hz : szOK ν o) (f : Nat → Int32) (hf : ∀ k, k < 7 → ν 27 k = f k) : ∀ j i, i + j = 7 → soB f (fun p => numF ν o (nI p)) i = true → Ev2 G mX7_isSoFrom 7 7 [(0, .ref 10), (2, .ref o), (3, .int (nI i))] [] ν (fun v μ' => v = some (.int (bi (soB f (fun p => numF ν o (nI p)) 7))) ∧ μ' = ν) := by
  intro j
  induction j with
  | zero =>
    intro i hi hs
    obtain rfl : i = 7 := by omega
    exact sg_X7_isSoFrom_7 ho ⟨fun _ => ⟨by rw [hs]; rfl, rfl⟩, fun c => absurd (nI_le (a := 7) (Nat.le_refl 7) (by omega)) c⟩
  | succ j ih =>
    intro i hi hs
    refine sg_X7_isSoFrom_7 ho ⟨fun c => absurd c (nI_ge (b := 7) (by omega) (by omega)), fun _ => ⟨vp_nI (by omega) (by omega), hz, fun c => ?_, fun c => ⟨?_, rfl⟩⟩⟩
    · rw [ix_nI (by omega), hf i (by omega)] at c
      have h := ih (i + 1) (by omega) (by
        show (soB f (fun p => numF ν o (nI p)) i && decide (f i = numF ν o (nI i))) = true
        rw [hs, c]
        simp)
      rw [← nI_1] at h
      exact h
    · rw [ix_nI (by omega), hf i (by omega)] at c
      rw [soB_no (i := i) c 7 (by omega)]
      rfl
theorem ct_X7_isSoFrom {G : GW} (x1 : Int32) (o : Nat) (ho : isSh o) (μ : Mem) (hp : vp_in x1 7 ∧ goOK (goX μ) (((1 <<< (μ 10 9 &&& 31)) - 1)) ∧ szOK μ o) : Ev2 G mX7_isSoFrom 7 0 [(0, .ref 10), (1, .int x1), (2, .ref o)] [] μ (fun v μ' => ∃ x, v = some (.int x) ∧ (x = bi (isoF μ x1.toNatClampNeg o) ∧ sameQ μ μ')) := by
  obtain ⟨h1, h2, h3⟩ := hp
  refine sg_X7_isSoFrom_0 ho ⟨⟨h1, h2⟩, fun ν hν => ?_⟩
  obtain ⟨hs, he⟩ := hν
  obtain ⟨s, hs4, rfl⟩ := ho
  have r1 : ν (74 + 2 * s) = μ (74 + 2 * s) := hs _ (by omega)
  have r2 : ν (74 + 2 * s + 1) = μ (74 + 2 * s + 1) := hs _ (by omega)
  have h := lp_X7_isSoFrom (G := G) ⟨s, hs4, rfl⟩ (ν := ν) (by unfold szOK; rw [r1]; exact h3) _ (fun k hk => he 0 (by omega) k hk) 7 0 rfl rfl
  refine ev2_imp h ?_
  rintro v μ' ⟨rfl, rfl⟩
  refine ⟨_, rfl, ?_, hs⟩
  unfold isoF
  have e : (fun p => numF μ' (74 + 2 * s) (nI p)) = fun p => numF μ (74 + 2 * s) (nI p) := by
    funext p
    unfold numF
    rw [r1, r2]
  rw [e]
def cpyW (μ : Mem) (r s n : Nat) : Mem := fun a k => if s + 1 ≤ a ∧ a < s + 1 + n ∧ k < 7 then μ (r + a - s) k else μ a k
theorem sg_X7_copyWalks_0 {G : GW} {K : Option Value → Mem → Prop} {μ : Mem} {r0 r1 : Nat} (hr0 : isWW r0) (hr1 : isWW r1) (h : Ev2 G mX7_copyWalks 2 2 [(0, .ref r0), (1, .ref r1), (2, .int 0)] [] μ K) : Ev2 G mX7_copyWalks 2 0 [(0, .ref r0), (1, .ref r1)] [] μ K := by
  refine ev_iconst (v := 0) dX7_copyWalks_0 rfl ?_
  refine ev_istore_n (lv' := [(0, .ref r0), (1, .ref r1), (2, .int 0)]) dX7_copyWalks_1 (by decide) [1, 2, 0] rfl ?_
  exact h
theorem sg_X7_copyWalks_2 {G : GW} {K : Option Value → Mem → Prop} {μ : Mem} {o r1 : Nat} {x2 : Int32} (ho : isWW o) (hr1 : isWW r1) (h : ((7 ≤ x2) → K none μ) ∧ ((¬ (7 ≤ x2)) → (vp_in x2 7) ∧ (vp_in x2 7) ∧ (¬ (0 : Int32) < 0 ∧ ¬ (0 : Int32) < 0 ∧ ¬ (7 : Int32) < 0 ∧ (0 : Int32).toNatClampNeg + (7 : Int32).toNatClampNeg ≤ 7 ∧ (0 : Int32).toNatClampNeg + (7 : Int32).toNatClampNeg ≤ 7) ∧ Ev2 G mX7_copyWalks 2 2 [(0, .ref o), (1, .ref r1), (2, .int (x2 + 1))] [] (mcpy μ (o + 1 + x2.toNatClampNeg) (r1 + 1 + x2.toNatClampNeg) (0 : Int32).toNatClampNeg (0 : Int32).toNatClampNeg (7 : Int32).toNatClampNeg) K)) : Ev2 G mX7_copyWalks 2 2 [(0, .ref o), (1, .ref r1), (2, .int x2)] [] μ K := by
  refine ev_iload_n dX7_copyWalks_2 2 rfl ?_
  refine ev_bipush (v := 7) dX7_copyWalks_3 rfl ?_
  refine ev_icmp_ge (tgt := 27) dX7_copyWalks_5 rfl (fun c1 => ?_) (fun c1 => ?_)
  · have h2 := h.1 c1
    exact ev_return dX7_copyWalks_27 rfl rfl rfl ⟨rfl, h2⟩
  · have h3 := h.2 c1
    refine ev_aload_n dX7_copyWalks_8 0 rfl (nzWW ho) ?_
    refine ev_iload_n dX7_copyWalks_9 2 rfl ?_
    have p4 := h3.1
    have h5 := h3.2
    refine ev_aaload' (k := 4) (kdWW ho) (by omega) (lnWW ho) p4 (raWW ho p4) dX7_copyWalks_10 ?_
    refine ev_iconst (v := 0) dX7_copyWalks_11 rfl ?_
    refine ev_aload_n dX7_copyWalks_12 1 rfl (nzWW hr1) ?_
    refine ev_iload_n dX7_copyWalks_13 2 rfl ?_
    have p6 := h5.1
    have h7 := h5.2
    refine ev_aaload' (k := 4) (kdWW hr1) (by omega) (lnWW hr1) p6 (raWW hr1 p6) dX7_copyWalks_14 ?_
    refine ev_iconst (v := 0) dX7_copyWalks_15 rfl ?_
    refine ev_bipush (v := 7) dX7_copyWalks_16 rfl ?_
    have p8 := h7.1
    have h9 := h7.2
    refine ev_arraycopy ml_7_292 (kdRw (isWWr ho p4)) (kdRw (isWWr hr1 p6)) p8.1 p8.2.1 p8.2.2.1 (by rw [show S0.2.2.2.1 (o + 1 + x2.toNatClampNeg) = _ from (lnRw (isWWr ho p4))]; exact p8.2.2.2.1) (by rw [show S0.2.2.2.1 (r1 + 1 + x2.toNatClampNeg) = _ from (lnRw (isWWr hr1 p6))]; exact p8.2.2.2.2) dX7_copyWalks_18 (Nat.le_of_ble_eq_true rfl) (by decide) ?_
    refine ev_iinc (v := (x2 + 1)) (lv' := [(0, .ref o), (1, .ref r1), (2, .int (x2 + 1))]) dX7_copyWalks_21 2 rfl rfl (by decide) [1, 2, 0] rfl ?_
    refine ev_goto (tgt := 2) dX7_copyWalks_24 rfl ?_
    exact h9
theorem cpyW_step {μ : Mem} {r s i : Nat} (hr : isWW r) (hs : isWW s) (hi : i < 7) : mcpy (cpyW μ r s i) (r + 1 + i) (s + 1 + i) 0 0 7 = cpyW μ r s (i + 1) := by
  funext a k
  unfold mcpy cpyW va_cpy
  dsimp only
  by_cases ha : a = s + 1 + i
  · subst ha
    rw [if_pos rfl]
    by_cases hk : k < 7
    · rw [if_pos (by omega), if_neg (by rcases hr with rfl | rfl <;> rcases hs with rfl | rfl <;> omega), if_pos (by omega)]
      congr 1 <;> omega
    · rw [if_neg (by omega), if_neg (by omega), if_neg (by omega)]
  · rw [if_neg ha]
    by_cases hb : s + 1 ≤ a ∧ a < s + 1 + i ∧ k < 7
    · rw [if_pos hb, if_pos (by omega)]
    · rw [if_neg hb, if_neg (by omega)]
theorem lp_X7_copyWalks {G : GW} {r s : Nat} (hr : isWW r) (hs : isWW s) (μ : Mem) : ∀ j i, i + j = 7 → Ev2 G mX7_copyWalks 2 2 [(0, .ref r), (1, .ref s), (2, .int (nI i))] [] (cpyW μ r s i) (fun v μ' => v = none ∧ μ' = cpyW μ r s 7) := by
  intro j
  induction j with
  | zero =>
    intro i hi
    obtain rfl : i = 7 := by omega
    exact sg_X7_copyWalks_2 hr hs ⟨fun _ => ⟨rfl, rfl⟩, fun c => absurd (nI_le (a := 7) (Nat.le_refl 7) (by omega)) c⟩
  | succ j ih =>
    intro i hi
    have h := ih (i + 1) (by omega)
    rw [← nI_1, ← cpyW_step hr hs (by omega)] at h
    refine sg_X7_copyWalks_2 hr hs ⟨fun c => absurd c (nI_ge (b := 7) (by omega) (by omega)), fun _ => ⟨vp_nI (by omega) (by omega), vp_nI (by omega) (by omega), ⟨by decide, by decide, by decide, by decide, by decide⟩, ?_⟩⟩
    rw [ix_nI (by omega)]
    exact h
theorem ct_X7_copyWalks {G : GW} (r : Nat) (hr : isWW r) (s : Nat) (hs : isWW s) (μ : Mem) : Ev2 G mX7_copyWalks 2 0 [(0, .ref r), (1, .ref s)] [] μ (fun v μ' => v = none ∧ μ' = cpyW μ r s 7) := by
  have h := lp_X7_copyWalks (G := G) hr hs μ 7 0 rfl
  have e : cpyW μ r s 0 = μ := by
    funext a k
    unfold cpyW
    rw [if_neg (by omega)]
  rw [e] at h
  exact sg_X7_copyWalks_0 hr hs h
