/-! ===== ways, seen from the abstract state ===== -/
def chainAll (σ : Mem) : Prop := ∀ p, p < 7 → ∃ q, q < 7 ∧ σ 2 p = nI q
theorem chainAll.ok {σ : Mem} (h : chainAll σ) : chainOK σ := fun p hp _ => h p hp
theorem chainAll.congr {σ τ : Mem} (e : eq7 σ τ) (h : chainAll σ) : chainAll τ := fun p hp => by
  rw [← e 2 (by omega) p hp]
  exact h p hp
theorem chainAll.come {σ : Mem} (h : chainAll σ) {q p : Nat} {t w : Int32} (hp : p < 7) : chainAll (comeS σ q t w (nI p)) := by
  unfold comeS
  split
  · intro r hr
    by_cases c : r = q
    · subst c
      exact ⟨p, hp, mset_same⟩
    · rw [mset_other (by omega), mset_other (by omega), mset_other (by omega)]
      exact h r hr
  · exact h
theorem chainAll.leave {go : Nat → Nat → Int32} {tm : Nat → Int32 → Int32} {w : Nat → Nat → Int32} {n : Nat} {set : Int32} {p : Nat} {σ : Mem} (h : chainAll σ) (hp : p < 7) : chainAll (leaveS go tm w n set p σ) := by
  unfold leaveS
  have h1 : chainAll (mset σ 3 p 1) := fun r hr => by
    rw [mset_other (by omega)]
    exact h r hr
  have h2 : ∀ k, chainAll (lvH go tm set p k (mset σ 3 p 1)) := by
    intro k
    induction k with
    | zero => exact h1
    | succ k ih =>
      unfold lvH
      split
      · exact ih.come hp
      · exact ih
  have h3 : ∀ k, chainAll (lvF w p k (lvH go tm set p n (mset σ 3 p 1))) := by
    intro k
    induction k with
    | zero => exact h2 n
    | succ k ih =>
      unfold lvF
      split
      · exact ih.come hp
      · exact ih
  exact h3 7
theorem chainAll.stop {go : Nat → Nat → Int32} {tm : Nat → Int32 → Int32} {w : Nat → Nat → Int32} {n : Nat} {set stop : Int32} : ∀ (f : Nat) {σ : Mem}, chainAll σ → chainAll (stopRun go tm w n set stop f σ) := by
  intro f
  induction f with
  | zero => exact fun h => h
  | succ f ih =>
    intro σ h
    unfold stopRun
    split
    · exact h
    · rename_i c
      rcases pickS_range (σ := σ) 7 with e | ⟨p, hp, e, -⟩
      · exact absurd (Or.inr e) c
      · rw [e, ix_nI (by omega)]
        exact ih (h.leave hp)
theorem chain_run {go : Nat → Nat → Int32} {tm : Nat → Int32 → Int32} {w : Nat → Nat → Int32} {set stop : Int32} {a : Nat} (ha : a < 7) : chainAll (runV go tm w set stop a) := by
  refine chainAll.stop 7 (fun p hp => ⟨a, ha, ?_⟩)
  unfold initS
  rw [if_pos hp]
  rfl
theorem backL_lt {σ : Mem} (h : chainAll σ) : ∀ f p, p < 7 → ∀ x, x ∈ backL σ f p → x < 7 := by
  intro f
  induction f with
  | zero => intro p _ x hx; exact absurd hx (List.not_mem_nil)
  | succ f ih =>
    intro p hp x hx
    unfold backL at hx
    split at hx
    · exact absurd hx (List.not_mem_nil)
    · obtain ⟨q, hq, e⟩ := h p hp
      rcases List.mem_cons.mp hx with rfl | hx
      · exact hp
      · rw [e, ix_nI (by omega)] at hx
        exact ih q hq x hx
theorem backL_congr {σ τ : Mem} (e : eq7 σ τ) (h : chainAll σ) : ∀ f p, p < 7 → backL σ f p = backL τ f p := by
  intro f
  induction f with
  | zero => intro p _; rfl
  | succ f ih =>
    intro p hp
    unfold backL
    obtain ⟨q, hq, e2⟩ := h p hp
    rw [← e 1 (by omega) p hp, ← e 2 (by omega) p hp, e2, ix_nI (by omega), ih q hq]
theorem backL_len (σ : Mem) : ∀ f p, (backL σ f p).length ≤ f := by
  intro f
  induction f with
  | zero => intro p; exact Nat.le_refl 0
  | succ f ih =>
    intro p
    unfold backL
    split
    · exact Nat.zero_le _
    · rw [List.length_cons]
      exact Nat.succ_le_succ (ih _)
theorem wayHs_congr {σ τ : Mem} (e : eq7 σ τ) : ∀ l : List Nat, (∀ x, x ∈ l → x < 7) → ∀ acc, wayHs σ acc l = wayHs τ acc l := by
  intro l
  induction l with
  | nil => intro _ _; rfl
  | cons x l ih =>
    intro hl acc
    show wayHs σ (if σ 1 x = 7 then acc else acc ||| (1 <<< (σ 1 x &&& 31))) l = wayHs τ (if τ 1 x = 7 then acc else acc ||| (1 <<< (τ 1 x &&& 31))) l
    rw [← e 1 (by omega) x (hl x List.mem_cons_self)]
    exact ih (fun y hy => hl y (List.mem_cons_of_mem _ hy)) _
theorem wayWs_congr {σ τ : Mem} (e : eq7 σ τ) (h : chainAll σ) : ∀ l : List Nat, (∀ x, x ∈ l → x < 7) → ∀ acc, wayWs σ acc l = wayWs τ acc l := by
  intro l
  induction l with
  | nil => intro _ _; rfl
  | cons x l ih =>
    intro hl acc
    have hx := hl x List.mem_cons_self
    obtain ⟨q, hq, e2⟩ := h x hx
    show wayWs σ (if σ 1 x = 7 then acc + (σ 0 x - σ 0 (σ 2 x).toNatClampNeg) else acc) l = wayWs τ (if τ 1 x = 7 then acc + (τ 0 x - τ 0 (τ 2 x).toNatClampNeg) else acc) l
    rw [← e 1 (by omega) x hx, ← e 0 (by omega) x hx, ← e 2 (by omega) x hx, e2, ix_nI (by omega), ← e 0 (by omega) q hq]
    exact ih (fun y hy => hl y (List.mem_cons_of_mem _ hy)) _
theorem grS_congr {σ τ : Mem} (e : eq7 σ τ) : ∀ n, n ≤ 7 → grS σ n = grS τ n := by
  intro n
  induction n with
  | zero => intro _; rfl
  | succ n ih =>
    intro hn
    unfold grS
    rw [ih (by omega), e 0 (by omega) n (by omega)]
/-- the piece from the first on -/
def pieceS (σ : Mem) (l : List Nat) (i : Int32) : Int32 := if 0 ≤ i ∧ i < nI l.length then pieceV σ (l.getD (nI l.length - 1 - i).toNatClampNeg 0) else -1
theorem trace_shown {μ ν σ : Mem} {b : Nat} (hb : b < 7) (e : eq7 (get4 27 μ) σ) (h : chainAll σ) (hr : traceR μ (get4 27 μ) b ν) : sameQ μ ν ∧ (∀ r, r < 4 → get4 27 ν r = get4 27 μ r) ∧ ν 26 5 = nI (backL σ 7 b).length ∧ ν 26 6 = wayHs σ 0 (backL σ 7 b) ∧ ν 26 7 = wayWs σ 0 (backL σ 7 b) ∧ ∀ i, pieceF ν i = pieceS σ (backL σ 7 b) i := by
  obtain ⟨r1, r2, r3, r4, r5, r6⟩ := hr
  have e' := eq7.sy e
  have hl := backL_lt h 7 b hb
  rw [← backL_congr e' h 7 b hb] at r3 r4 r5 r6
  refine ⟨fun a ha => r1 a (by omega) (by omega), fun r hr => r1 (27 + r) (by omega) (by omega), r3, ?_, ?_, fun i => ?_⟩
  · rw [r4, wayHs_congr e' _ hl]
  · rw [r5, wayWs_congr e' h _ hl]
  · unfold pieceF pieceS
    rw [r3]
    have hn := backL_len σ 7 b
    by_cases c : 0 ≤ i ∧ i < nI (backL σ 7 b).length
    · rw [if_pos c, if_pos c]
      have c0 : (0 : Int32).toInt = 0 := by decide
      have c1 : (1 : Int32).toInt = 1 := by decide
      have cc := c
      rw [i_le, i_lt, c0, nI_toInt (by omega)] at cc
      have hj : (nI (backL σ 7 b).length - 1 - i).toNatClampNeg < (backL σ 7 b).length := by
        have s1 : (nI (backL σ 7 b).length - 1).toInt = (backL σ 7 b).length - 1 := by
          rw [i_sub (by rw [nI_toInt (by omega), c1]; omega), nI_toInt (by omega), c1]
        have s2 : (nI (backL σ 7 b).length - 1 - i).toInt = (backL σ 7 b).length - 1 - i.toInt := by
          rw [i_sub (by rw [s1]; omega), s1]
        show ((nI (backL σ 7 b).length - 1 - i).toInt).toNat < _
        rw [s2]
        omega
      have hg : (backL σ 7 b)[(nI (backL σ 7 b).length - 1 - i).toNatClampNeg]? = some ((backL σ 7 b).getD (nI (backL σ 7 b).length - 1 - i).toNatClampNeg 0) := by
        rw [List.getD_eq_getElem?_getD, List.getElem?_eq_getElem hj]
        rfl
      rw [r6 _ _ hg]
      have hx := hl _ (List.mem_of_getElem? hg)
      unfold pieceV
      rw [e 1 (by omega) _ hx]
    · rw [if_neg c, if_neg c]
theorem soon_shown {α μ ν : Mem} {set x : Int32} {a b : Nat} (hf : WF α) (h : VX α μ) (hs : setOK (aN α) set) (hr : soonR μ set a b x ν) : x = soonA α set a b ∧ VX α ν ∧ keepM μ ν ∧ eq7 (get4 27 ν) (runA α set (nI b) a) := by
  obtain ⟨h1, h2, h3⟩ := hr
  rw [h.run hs] at h3
  exact ⟨h1.trans (h.soon hs a b), h.Q hf h2, keepM.of_sameQ h2, h3⟩
theorem all_shown {α μ ν : Mem} {a : Nat} (hf : WF α) (h : VX α μ) (hr : sameQ μ ν ∧ eq7 (get4 27 ν) (runV (goX μ) (tmX μ) (wX μ) (allA α) (-1) a)) : VX α ν ∧ keepM μ ν ∧ eq7 (get4 27 ν) (runA α (allA α) (-1) a) := by
  obtain ⟨h2, h3⟩ := hr
  rw [h.run (allA_ok hf.1)] at h3
  exact ⟨h.Q hf h2, keepM.of_sameQ h2, h3⟩
def wayA (α : Mem) (a b : Nat) : List Nat := backL (runA α (allA α) (nI b) a) 7 b
def sel5 (what a b c d e : Int32) : Int32 := if what = 0 then a else if what = 1 then b else if what = 2 then c else if what = 3 then d else if what = 4 then e else -7
theorem sel5_0 {what a b c d e : Int32} (h : what = 0) : sel5 what a b c d e = a := if_pos h
theorem sel5_1 {what a b c d e : Int32} (h : what = 1) : sel5 what a b c d e = b := by
  subst h
  exact (if_neg (by decide)).trans (if_pos rfl)
theorem sel5_2 {what a b c d e : Int32} (h : what = 2) : sel5 what a b c d e = c := by
  subst h
  exact (if_neg (by decide)).trans ((if_neg (by decide)).trans (if_pos rfl))
theorem sel5_3 {what a b c d e : Int32} (h : what = 3) : sel5 what a b c d e = d := by
  subst h
  exact (if_neg (by decide)).trans ((if_neg (by decide)).trans ((if_neg (by decide)).trans (if_pos rfl)))
theorem sel5_4 {what a b c d e : Int32} (h : what = 4) : sel5 what a b c d e = e := by
  subst h
  exact (if_neg (by decide)).trans ((if_neg (by decide)).trans ((if_neg (by decide)).trans ((if_neg (by decide)).trans (if_pos rfl))))
theorem sel5_no {what a b c d e : Int32} (h0 : ¬ what = 0) (h1 : ¬ what = 1) (h2 : ¬ what = 2) (h3 : ¬ what = 3) (h4 : ¬ what = 4) : sel5 what a b c d e = -7 := by
  unfold sel5
  rw [if_neg h0, if_neg h1, if_neg h2, if_neg h3, if_neg h4]
def sp_soonest (α : Mem) (x y what : Int32) : Int32 := if inB x 0 6 = true then (if inB y 0 6 = true then sel5 what (soonA α (allA α) x.toNatClampNeg y.toNatClampNeg) (wayHs (runA α (allA α) y x.toNatClampNeg) 0 (wayA α x.toNatClampNeg y.toNatClampNeg)) (wayWs (runA α (allA α) y x.toNatClampNeg) 0 (wayA α x.toNatClampNeg y.toNatClampNeg)) (nI (wayA α x.toNatClampNeg y.toNatClampNeg).length) (firstF (pieceS (runA α (allA α) y x.toNatClampNeg) (wayA α x.toNatClampNeg y.toNatClampNeg) 0)) else -5) else -5
theorem sg_X7_soonest_0 {G : GW} {K : Option Value → Mem → Prop} {μ : Mem} {x1 x2 x3 : Int32}  (h : (((inB x1 0 6) = false) → K (some (.int (-5))) μ) ∧ (((inB x1 0 6) = true) → (((inB x2 0 6) = true) → (vp_in x1 7 ∧ vp_in x2 7 ∧ goOK (goX μ) ((((1 : Int32) <<< (μ 10 9 &&& 31)) - 1))) ∧ ∀ (z9 : Int32) (μ10 : Mem), (soonR μ ((((1 : Int32) <<< (μ 10 9 &&& 31)) - 1)) x1.toNatClampNeg x2.toNatClampNeg z9 μ10) → (vp_in x2 7 ∧ chainOK (get4 27 μ10)) ∧ ∀ μ15 : Mem, (traceR μ10 (get4 27 μ10) x2.toNatClampNeg μ15) → (x3 = 0 → K (some (.int z9)) μ15) ∧ (x3 = 1 → K (some (.int (μ15 26 6))) μ15) ∧ (x3 = 2 → K (some (.int (μ15 26 7))) μ15) ∧ (x3 = 3 → K (some (.int (μ15 26 5))) μ15) ∧ (x3 = 4 → (∃ c, c ≤ 7 ∧ μ15 26 5 = nI c) ∧ K (some (.int (firstF (pieceF μ15 0)))) μ15) ∧ (¬ x3 = 0 → ¬ x3 = 1 → ¬ x3 = 2 → ¬ x3 = 3 → ¬ x3 = 4 → K (some (.int (-7))) μ15)) ∧ (((inB x2 0 6) = false) → K (some (.int (-5))) μ))) : Ev2 G mX7_soonest 7 0 [(0, .ref 10), (1, .int x1), (2, .int x2), (3, .int x3)] [] μ K := by
  refine ev_iload_n dX7_soonest_0 1 rfl ?_
  refine e2_callS (w := .int (bi (inB x1 0 6))) (μ1 := μ) (as := [.int x1]) (st := []) ok_X7_isPlace sv_X7_isPlace ml_7_94 dX7_soonest_1 rfl rfl (Nat.le_of_ble_eq_true rfl) (Nat.le_of_ble_eq_true rfl) (by decide) (ct_X7_isPlace (x1) μ) ?_
  refine ev_ifeq_bi (tgt := 14) dX7_soonest_4 rfl (fun c1 => ?_) (fun c1 => ?_)
  · have h2 := h.1 c1
    refine ev_bipush (v := (-5)) dX7_soonest_14 rfl ?_
    exact ev_ireturn dX7_soonest_16 rfl True.intro rfl rfl ⟨rfl, h2⟩
  · have h3 := h.2 c1
    refine ev_iload_n dX7_soonest_7 2 rfl ?_
    refine e2_callS (w := .int (bi (inB x2 0 6))) (μ1 := μ) (as := [.int x2]) (st := []) ok_X7_isPlace sv_X7_isPlace ml_7_94 dX7_soonest_8 rfl rfl (Nat.le_of_ble_eq_true rfl) (Nat.le_of_ble_eq_true rfl) (by decide) (ct_X7_isPlace (x2) μ) ?_
    refine ev_ifne_bi (tgt := 17) dX7_soonest_11 rfl (fun c4 => ?_) (fun c4 => ?_)
    · have h5 := h3.1 c4
      refine ev_aload_n dX7_soonest_17 0 rfl (by decide) ?_
      refine ev_aload_n dX7_soonest_18 0 rfl (by decide) ?_
      refine e2_callV (w := .int ((((1 : Int32) <<< (μ 10 9 &&& 31)) - 1))) (μ1 := μ) (a := 10) (as := []) (st := [.ref 10]) ok_X7_allHorses vi_X7_allHorses ml_7_176 hcl_7 kd_10 dX7_soonest_19 rfl rfl (Nat.le_of_ble_eq_true rfl) (Nat.le_of_ble_eq_true rfl) (by decide) (ct_X7_allHorses μ) ?_
      refine ev_iload_n dX7_soonest_22 1 rfl ?_
      refine ev_iload_n dX7_soonest_23 2 rfl ?_
      have p7 := h5.1
      have h8 := h5.2
      refine e2_callVr (Rl := fun z9 μ10 => soonR μ ((((1 : Int32) <<< (μ 10 9 &&& 31)) - 1)) x1.toNatClampNeg x2.toNatClampNeg z9 μ10) (a := 10) (as := [.int ((((1 : Int32) <<< (μ 10 9 &&& 31)) - 1)), .int x1, .int x2]) (st := []) ok_X7_soonWith vi_X7_soonWith ml_7_179 hcl_7 kd_10 dX7_soonest_24 rfl rfl (Nat.le_of_ble_eq_true rfl) (Nat.le_of_ble_eq_true rfl) (by decide) (ct_X7_soonWith (((((1 : Int32) <<< (μ 10 9 &&& 31)) - 1))) (x1) (x2) μ p7) (fun z9 μ10 r11 => ?_)
      have h12 := h8 z9 μ10 r11
      refine ev_istore (lv' := [(0, .ref 10), (1, .int x1), (2, .int x2), (3, .int x3), (4, .int z9)]) dX7_soonest_27 (by decide) [1, 2, 3, 4, 0] rfl ?_
      refine ev_aload_n dX7_soonest_29 0 rfl (by decide) ?_
      refine ev_getR' fl_7_43 rfl kd_10 rf_10_6 dX7_soonest_30 ?_
      refine ev_iload_n dX7_soonest_33 2 rfl ?_
      have p13 := h12.1
      have h14 := h12.2
      refine e2_callVrv (Rl := fun μ15 => traceR μ10 (get4 27 μ10) x2.toNatClampNeg μ15) (a := 26) (as := [.int x2]) (st := []) ok_X3_traceTo vi_X3_traceTo ml_7_183 hcl_3 kd_26 dX7_soonest_34 rfl rfl (Nat.le_of_ble_eq_true rfl) (Nat.le_of_ble_eq_true rfl) (by decide) (ct_X3_traceTo (x2) μ10 p13) (fun μ15 r16 => ?_)
      have h17 := h14 μ15 r16
      refine ev_iload_n dX7_soonest_37 3 rfl ?_
      rcases Decidable.em (x3 = 0) with c18 | c18
      · have h19 := h17.1 c18
        refine ev_tabIn (off := 34) (tgt := 72) 0 dX7_soonest_38 c18 (by decide) ?_
        refine ev_iload dX7_soonest_72 4 rfl ?_
        exact ev_ireturn dX7_soonest_74 rfl True.intro rfl rfl ⟨rfl, h19⟩
      · have h20 := h17.2
        rcases Decidable.em (x3 = 1) with c21 | c21
        · have h22 := h20.1 c21
          refine ev_tabIn (off := 37) (tgt := 75) 1 dX7_soonest_38 c21 (by decide) ?_
          refine ev_aload_n dX7_soonest_75 0 rfl (by decide) ?_
          refine ev_getR' fl_7_43 rfl kd_10 rf_10_6 dX7_soonest_76 ?_
          refine ev_getI' (v := (μ15 26 6)) fl_7_186 rfl kd_26 rfl dX7_soonest_79 ?_
          exact ev_ireturn dX7_soonest_82 rfl True.intro rfl rfl ⟨rfl, h22⟩
        · have h23 := h20.2
          rcases Decidable.em (x3 = 2) with c24 | c24
          · have h25 := h23.1 c24
            refine ev_tabIn (off := 45) (tgt := 83) 2 dX7_soonest_38 c24 (by decide) ?_
            refine ev_aload_n dX7_soonest_83 0 rfl (by decide) ?_
            refine ev_getR' fl_7_43 rfl kd_10 rf_10_6 dX7_soonest_84 ?_
            refine ev_getI' (v := (μ15 26 7)) fl_7_189 rfl kd_26 rfl dX7_soonest_87 ?_
            exact ev_ireturn dX7_soonest_90 rfl True.intro rfl rfl ⟨rfl, h25⟩
          · have h26 := h23.2
            rcases Decidable.em (x3 = 3) with c27 | c27
            · have h28 := h26.1 c27
              refine ev_tabIn (off := 53) (tgt := 91) 3 dX7_soonest_38 c27 (by decide) ?_
              refine ev_aload_n dX7_soonest_91 0 rfl (by decide) ?_
              refine ev_getR' fl_7_43 rfl kd_10 rf_10_6 dX7_soonest_92 ?_
              refine ev_getI' (v := (μ15 26 5)) fl_7_192 rfl kd_26 rfl dX7_soonest_95 ?_
              exact ev_ireturn dX7_soonest_98 rfl True.intro rfl rfl ⟨rfl, h28⟩
            · have h29 := h26.2
              rcases Decidable.em (x3 = 4) with c30 | c30
              · have h31 := h29.1 c30
                refine ev_tabIn (off := 61) (tgt := 99) 4 dX7_soonest_38 c30 (by decide) ?_
                refine ev_aload_n dX7_soonest_99 0 rfl (by decide) ?_
                refine ev_getR' fl_7_43 rfl kd_10 rf_10_6 dX7_soonest_100 ?_
                have p33 := h31.1
                have h34 := h31.2
                refine e2_callV (w := .int (firstF (pieceF μ15 0))) (μ1 := μ15) (a := 26) (as := []) (st := []) ok_X3_firstHorse vi_X3_firstHorse ml_7_195 hcl_3 kd_26 dX7_soonest_103 rfl rfl (Nat.le_of_ble_eq_true rfl) (Nat.le_of_ble_eq_true rfl) (by decide) (ct_X3_firstHorse μ15 p33) ?_
                exact ev_ireturn dX7_soonest_106 rfl True.intro rfl rfl ⟨rfl, h34⟩
              · have h32 := h29.2
                have tc18 := tz_ne (z := 0) c18 (by decide)
                have tc21 := tz_ne (z := 1) c21 (by decide)
                have tc24 := tz_ne (z := 2) c24 (by decide)
                have tc27 := tz_ne (z := 3) c27 (by decide)
                have tc30 := tz_ne (z := 4) c30 (by decide)
                have h35 := h32 c18 c21 c24 c27 c30
                refine ev_tabOut (tgt := 107) dX7_soonest_38 (by omega) rfl ?_
                refine ev_bipush (v := (-7)) dX7_soonest_107 rfl ?_
                exact ev_ireturn dX7_soonest_109 rfl True.intro rfl rfl ⟨rfl, h35⟩
    · have h6 := h3.2 c4
      refine ev_bipush (v := (-5)) dX7_soonest_14 rfl ?_
      exact ev_ireturn dX7_soonest_16 rfl True.intro rfl rfl ⟨rfl, h6⟩
theorem pb_X7_soonest {G : GW} {α μ : Mem} (hf : WF α) (h : VX α μ) (x1 x2 x3 : Int32) : pubX G mX7_soonest 7 [(0, .ref 10), (1, .int x1), (2, .int x2), (3, .int x3)] α μ (.int (sp_soonest α x1 x2 x3)) α := by
  have hs := allA_ok hf.1
  refine sg_X7_soonest_0 ⟨fun c => ?_, fun c => ⟨fun d => ?_, fun d => ?_⟩⟩
  · unfold sp_soonest
    rw [if_neg (by rw [c]; decide)]
    exact ⟨rfl, h, keepM.rf μ⟩
  · rw [VX.all h.1]
    unfold sp_soonest
    rw [if_pos c, if_pos d]
    obtain ⟨a, ha, rfl⟩ := inB_nI (m := 6) (by omega) c
    obtain ⟨b, hb, rfl⟩ := inB_nI (m := 6) (by omega) d
    rw [ix_nI (i := a) (by omega), ix_nI (i := b) (by omega)]
    refine ⟨⟨vp_nI (by omega) (by omega), vp_nI (by omega) (by omega), h.go hf hs⟩, fun x ν hx => ?_⟩
    obtain ⟨e1, h1, k1, q1⟩ := soon_shown hf h hs hx
    have hc : chainAll (runA α (allA α) (nI b) a) := chain_run (by omega)
    refine ⟨⟨vp_nI (by omega) (by omega), (hc.congr q1.sy).ok⟩, fun ξ hξ => ?_⟩
    obtain ⟨s1, s2, t1, t2, t3, t4⟩ := trace_shown (by omega) q1 hc hξ
    have kk : VX α ξ ∧ keepM μ ξ := ⟨h1.Q hf s1, k1.tr (keepM.of_sameQ s1)⟩
    have hl := backL_len (runA α (allA α) (nI b) a) 7 b
    rw [t1, t2, t3, t4, e1]
    refine ⟨fun c => ?_, fun c => ?_, fun c => ?_, fun c => ?_, fun c => ⟨⟨_, hl, rfl⟩, ?_⟩, fun c0 c1 c2 c3 c4 => ?_⟩
    · rw [sel5_0 c]; exact ⟨rfl, kk⟩
    · rw [sel5_1 c]; exact ⟨rfl, kk⟩
    · rw [sel5_2 c]; exact ⟨rfl, kk⟩
    · rw [sel5_3 c]; exact ⟨rfl, kk⟩
    · rw [sel5_4 c]; exact ⟨rfl, kk⟩
    · rw [sel5_no c0 c1 c2 c3 c4]; exact ⟨rfl, kk⟩
  · unfold sp_soonest
    rw [if_pos c, if_neg (by rw [d]; decide)]
    exact ⟨rfl, h, keepM.rf μ⟩
def sp_piece (α : Mem) (x y i : Int32) : Int32 := if inB x 0 6 = true then (if inB y 0 6 = true then (if 0 ≤ i then pieceS (runA α (allA α) y x.toNatClampNeg) (wayA α x.toNatClampNeg y.toNatClampNeg) i else -7) else -5) else -5
theorem sg_X7_piece_0 {G : GW} {K : Option Value → Mem → Prop} {μ : Mem} {x1 x2 x3 : Int32}  (h : (((inB x1 0 6) = false) → K (some (.int (-5))) μ) ∧ (((inB x1 0 6) = true) → (((inB x2 0 6) = true) → ((0 ≤ x3) → (vp_in x1 7 ∧ vp_in x2 7 ∧ goOK (goX μ) ((((1 : Int32) <<< (μ 10 9 &&& 31)) - 1))) ∧ ∀ (z12 : Int32) (μ13 : Mem), (soonR μ ((((1 : Int32) <<< (μ 10 9 &&& 31)) - 1)) x1.toNatClampNeg x2.toNatClampNeg z12 μ13) → (vp_in x2 7 ∧ chainOK (get4 27 μ13)) ∧ ∀ μ18 : Mem, (traceR μ13 (get4 27 μ13) x2.toNatClampNeg μ18) → (∃ c, c ≤ 7 ∧ μ18 26 5 = nI c) ∧ K (some (.int (pieceF μ18 x3))) μ18) ∧ ((¬ (0 ≤ x3)) → K (some (.int (-7))) μ)) ∧ (((inB x2 0 6) = false) → K (some (.int (-5))) μ))) : Ev2 G mX7_piece 7 0 [(0, .ref 10), (1, .int x1), (2, .int x2), (3, .int x3)] [] μ K := by
  refine ev_iload_n dX7_piece_0 1 rfl ?_
  refine e2_callS (w := .int (bi (inB x1 0 6))) (μ1 := μ) (as := [.int x1]) (st := []) ok_X7_isPlace sv_X7_isPlace ml_7_94 dX7_piece_1 rfl rfl (Nat.le_of_ble_eq_true rfl) (Nat.le_of_ble_eq_true rfl) (by decide) (ct_X7_isPlace (x1) μ) ?_
  refine ev_ifeq_bi (tgt := 14) dX7_piece_4 rfl (fun c1 => ?_) (fun c1 => ?_)
  · have h2 := h.1 c1
    refine ev_bipush (v := (-5)) dX7_piece_14 rfl ?_
    exact ev_ireturn dX7_piece_16 rfl True.intro rfl rfl ⟨rfl, h2⟩
  · have h3 := h.2 c1
    refine ev_iload_n dX7_piece_7 2 rfl ?_
    refine e2_callS (w := .int (bi (inB x2 0 6))) (μ1 := μ) (as := [.int x2]) (st := []) ok_X7_isPlace sv_X7_isPlace ml_7_94 dX7_piece_8 rfl rfl (Nat.le_of_ble_eq_true rfl) (Nat.le_of_ble_eq_true rfl) (by decide) (ct_X7_isPlace (x2) μ) ?_
    refine ev_ifne_bi (tgt := 17) dX7_piece_11 rfl (fun c4 => ?_) (fun c4 => ?_)
    · have h5 := h3.1 c4
      refine ev_iload_n dX7_piece_17 3 rfl ?_
      refine ev_if_ge (tgt := 24) dX7_piece_18 rfl (fun c7 => ?_) (fun c7 => ?_)
      · have h8 := h5.1 c7
        refine ev_aload_n dX7_piece_24 0 rfl (by decide) ?_
        refine ev_aload_n dX7_piece_25 0 rfl (by decide) ?_
        refine e2_callV (w := .int ((((1 : Int32) <<< (μ 10 9 &&& 31)) - 1))) (μ1 := μ) (a := 10) (as := []) (st := [.ref 10]) ok_X7_allHorses vi_X7_allHorses ml_7_176 hcl_7 kd_10 dX7_piece_26 rfl rfl (Nat.le_of_ble_eq_true rfl) (Nat.le_of_ble_eq_true rfl) (by decide) (ct_X7_allHorses μ) ?_
        refine ev_iload_n dX7_piece_29 1 rfl ?_
        refine ev_iload_n dX7_piece_30 2 rfl ?_
        have p10 := h8.1
        have h11 := h8.2
        refine e2_callVr (Rl := fun z12 μ13 => soonR μ ((((1 : Int32) <<< (μ 10 9 &&& 31)) - 1)) x1.toNatClampNeg x2.toNatClampNeg z12 μ13) (a := 10) (as := [.int ((((1 : Int32) <<< (μ 10 9 &&& 31)) - 1)), .int x1, .int x2]) (st := []) ok_X7_soonWith vi_X7_soonWith ml_7_179 hcl_7 kd_10 dX7_piece_31 rfl rfl (Nat.le_of_ble_eq_true rfl) (Nat.le_of_ble_eq_true rfl) (by decide) (ct_X7_soonWith (((((1 : Int32) <<< (μ 10 9 &&& 31)) - 1))) (x1) (x2) μ p10) (fun z12 μ13 r14 => ?_)
        have h15 := h11 z12 μ13 r14
        refine ev_pop dX7_piece_34 rfl ?_
        refine ev_aload_n dX7_piece_35 0 rfl (by decide) ?_
        refine ev_getR' fl_7_43 rfl kd_10 rf_10_6 dX7_piece_36 ?_
        refine ev_iload_n dX7_piece_39 2 rfl ?_
        have p16 := h15.1
        have h17 := h15.2
        refine e2_callVrv (Rl := fun μ18 => traceR μ13 (get4 27 μ13) x2.toNatClampNeg μ18) (a := 26) (as := [.int x2]) (st := []) ok_X3_traceTo vi_X3_traceTo ml_7_183 hcl_3 kd_26 dX7_piece_40 rfl rfl (Nat.le_of_ble_eq_true rfl) (Nat.le_of_ble_eq_true rfl) (by decide) (ct_X3_traceTo (x2) μ13 p16) (fun μ18 r19 => ?_)
        have h20 := h17 μ18 r19
        refine ev_aload_n dX7_piece_43 0 rfl (by decide) ?_
        refine ev_getR' fl_7_43 rfl kd_10 rf_10_6 dX7_piece_44 ?_
        refine ev_iload_n dX7_piece_47 3 rfl ?_
        have p21 := h20.1
        have h22 := h20.2
        refine e2_callV (w := .int (pieceF μ18 x3)) (μ1 := μ18) (a := 26) (as := [.int x3]) (st := []) ok_X3_pieceAt vi_X3_pieceAt ml_7_198 hcl_3 kd_26 dX7_piece_48 rfl rfl (Nat.le_of_ble_eq_true rfl) (Nat.le_of_ble_eq_true rfl) (by decide) (ct_X3_pieceAt (x3) μ18 p21) ?_
        exact ev_ireturn dX7_piece_51 rfl True.intro rfl rfl ⟨rfl, h22⟩
      · have h9 := h5.2 c7
        refine ev_bipush (v := (-7)) dX7_piece_21 rfl ?_
        exact ev_ireturn dX7_piece_23 rfl True.intro rfl rfl ⟨rfl, h9⟩
    · have h6 := h3.2 c4
      refine ev_bipush (v := (-5)) dX7_piece_14 rfl ?_
      exact ev_ireturn dX7_piece_16 rfl True.intro rfl rfl ⟨rfl, h6⟩
theorem pb_X7_piece {G : GW} {α μ : Mem} (hf : WF α) (h : VX α μ) (x1 x2 x3 : Int32) : pubX G mX7_piece 7 [(0, .ref 10), (1, .int x1), (2, .int x2), (3, .int x3)] α μ (.int (sp_piece α x1 x2 x3)) α := by
  have hs := allA_ok hf.1
  refine sg_X7_piece_0 ⟨fun c => ?_, fun c => ⟨fun d => ⟨fun k => ?_, fun k => ?_⟩, fun d => ?_⟩⟩
  · unfold sp_piece
    rw [if_neg (by rw [c]; decide)]
    exact ⟨rfl, h, keepM.rf μ⟩
  · rw [VX.all h.1]
    unfold sp_piece
    rw [if_pos c, if_pos d, if_pos k]
    obtain ⟨a, ha, rfl⟩ := inB_nI (m := 6) (by omega) c
    obtain ⟨b, hb, rfl⟩ := inB_nI (m := 6) (by omega) d
    rw [ix_nI (i := a) (by omega), ix_nI (i := b) (by omega)]
    refine ⟨⟨vp_nI (by omega) (by omega), vp_nI (by omega) (by omega), h.go hf hs⟩, fun x ν hx => ?_⟩
    obtain ⟨e1, h1, k1, q1⟩ := soon_shown hf h hs hx
    have hc : chainAll (runA α (allA α) (nI b) a) := chain_run (by omega)
    refine ⟨⟨vp_nI (by omega) (by omega), (hc.congr q1.sy).ok⟩, fun ξ hξ => ?_⟩
    obtain ⟨s1, s2, t1, t2, t3, t4⟩ := trace_shown (by omega) q1 hc hξ
    have kk : VX α ξ ∧ keepM μ ξ := ⟨h1.Q hf s1, k1.tr (keepM.of_sameQ s1)⟩
    have hl := backL_len (runA α (allA α) (nI b) a) 7 b
    rw [t4]
    exact ⟨⟨_, hl, t1⟩, rfl, kk⟩
  · unfold sp_piece
    rw [if_pos c, if_pos d, if_neg k]
    exact ⟨rfl, h, keepM.rf μ⟩
  · unfold sp_piece
    rw [if_pos c, if_neg (by rw [d]; decide)]
    exact ⟨rfl, h, keepM.rf μ⟩
