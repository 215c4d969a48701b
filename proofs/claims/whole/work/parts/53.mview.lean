/-! ===== the reference's heap shows the abstract state ===== -/
def letM : List Int32 := [116, 111, 108, 100, 109, 111, 114, 101, 102, 114, 111, 109, 116, 111, 114, 101, 97, 100, 121, 102, 97, 114, 111, 117, 116, 104, 111, 109, 101, 100, 105, 101, 115, 111, 114, 97, 110, 100, 110, 111, 116]
def begM : List Int32 := [0, 4, 8, 12, 14, 19, 22, 25, 29, 33, 35, 38, 41]
def vMc (α μ : Mem) : Prop := μ 82 4 = α 0 0 ∧ μ 82 1 = α 0 1 ∧ μ 82 13 = α 0 2 ∧ μ 82 14 = α 0 3 ∧ μ 82 12 = α 0 4
def vMw (α μ : Mem) : Prop := ∀ k, k < 49 → μ 83 k = α 1 k
def vMr (α μ : Mem) : Prop := ∀ i, i < aR α → μ 84 i = α 2 i ∧ μ 85 i = α 3 i
def vMh1 (α μ : Mem) (h : Nat) : Prop := ∀ f, f < 6 → μ (86 + f) h = α (4 + f) h
def vMh (α μ : Mem) : Prop := ∀ h, h < aN α → vMh1 α μ h
def vMt (α μ : Mem) : Prop := ∀ i, i < aT α → μ 92 i = α 10 i
def vMx1 (α μ : Mem) (r : Nat) : Prop := μ 94 r = α 17 r ∧ ∀ k, k < (α 17 r).toNatClampNeg → μ 93 (160 * r + k) = α 18 (160 * r + k)
def vMx (α μ : Mem) : Prop := ∀ t, t < aX α → ∀ p, p < 3 → vMx1 α μ (3 * t + p)
def vMi (α μ : Mem) : Prop := μ 82 39 = α 11 0 ∧ (α 11 0 = 1 → (μ 82 42 = α 11 1 ∧ μ 82 43 = α 11 2 ∧ μ 82 44 = α 11 3) ∧ (∀ k, k < 49 → μ 107 k = α 12 k) ∧ ∀ h, h < (α 11 1).toNatClampNeg → μ 108 h = α 13 h)
def vMs (α μ : Mem) : Prop := ∀ s, s < 4 → μ 109 s = α 14 s ∧ μ 110 s = α 15 s ∧ ∀ k, k < 40 → μ 111 (40 * s + k) = α 16 (40 * s + k)
def vMk (μ : Mem) : Prop := (∀ k, k < 41 → μ 95 k = letM.getD k 0) ∧ ∀ k, k < 13 → μ 96 k = begM.getD k 0
def VM (α μ : Mem) : Prop := vMc α μ ∧ vMw α μ ∧ vMr α μ ∧ vMh α μ ∧ vMt α μ ∧ vMx α μ ∧ vMi α μ ∧ vMs α μ ∧ vMk μ
/-- the reference's own rows that show nothing -/
def scrM (a k : Nat) : Prop := (a = 82 ∧ ((17 ≤ k ∧ k ≤ 20) ∨ (24 ≤ k ∧ k ≤ 26) ∨ (28 ≤ k ∧ k ≤ 29) ∨ k = 38)) ∨ (97 ≤ a ∧ a ≤ 106) ∨ a = 112
theorem VM.same {α μ ν : Mem} (h : VM α μ) (hf : wfC α) (hs : ∀ a k, 82 ≤ a → ¬ scrM a k → ¬ (86 ≤ a ∧ a ≤ 91 ∧ aN α ≤ k) → ν a k = μ a k) : VM α ν := by
  obtain ⟨⟨c1, c2, c3, c4, c5⟩, w, r, hh, t, x, ⟨i1, i2⟩, s, k1, k2⟩ := h
  have R : ∀ a k, 83 ≤ a → ¬ (97 ≤ a ∧ a ≤ 106) → a ≠ 112 → ¬ (86 ≤ a ∧ a ≤ 91) → ν a k = μ a k := fun a k h1 h2 h3 h4 => hs a k (by omega) (by unfold scrM; omega) (by omega)
  have F : ∀ k, ¬ (17 ≤ k ∧ k ≤ 20) → ¬ (24 ≤ k ∧ k ≤ 26) → ¬ (28 ≤ k ∧ k ≤ 29) → k ≠ 38 → ν 82 k = μ 82 k := fun k h1 h2 h3 h4 => hs 82 k (by omega) (by unfold scrM; omega) (by omega)
  refine ⟨⟨?_, ?_, ?_, ?_, ?_⟩, fun k hk => ?_, fun i hi => ?_, fun i hi f hf' => ?_, fun i hi => ?_, fun t' ht p hp => ?_, ⟨?_, fun q => ?_⟩, fun s' hs' => ?_, fun k hk => ?_, fun k hk => ?_⟩
  · rw [F 4 (by omega) (by omega) (by omega) (by omega)]; exact c1
  · rw [F 1 (by omega) (by omega) (by omega) (by omega)]; exact c2
  · rw [F 13 (by omega) (by omega) (by omega) (by omega)]; exact c3
  · rw [F 14 (by omega) (by omega) (by omega) (by omega)]; exact c4
  · rw [F 12 (by omega) (by omega) (by omega) (by omega)]; exact c5
  · rw [R 83 k (by omega) (by omega) (by omega) (by omega)]; exact w k hk
  · rw [R 84 i (by omega) (by omega) (by omega) (by omega), R 85 i (by omega) (by omega) (by omega) (by omega)]; exact r i hi
  · rw [hs (86 + f) i (by omega) (by unfold scrM; omega) (by omega)]; exact hh i hi f hf'
  · rw [R 92 i (by omega) (by omega) (by omega) (by omega)]; exact t i hi
  · obtain ⟨x1, x2⟩ := x t' ht p hp
    refine ⟨by rw [R 94 _ (by omega) (by omega) (by omega) (by omega)]; exact x1, fun k hk => by rw [R 93 _ (by omega) (by omega) (by omega) (by omega)]; exact x2 k hk⟩
  · rw [F 39 (by omega) (by omega) (by omega) (by omega)]; exact i1
  · obtain ⟨⟨q1, q2, q3⟩, q4, q5⟩ := i2 q
    refine ⟨⟨?_, ?_, ?_⟩, fun k hk => ?_, fun i hi => ?_⟩
    · rw [F 42 (by omega) (by omega) (by omega) (by omega)]; exact q1
    · rw [F 43 (by omega) (by omega) (by omega) (by omega)]; exact q2
    · rw [F 44 (by omega) (by omega) (by omega) (by omega)]; exact q3
    · rw [R 107 k (by omega) (by omega) (by omega) (by omega)]; exact q4 k hk
    · rw [R 108 i (by omega) (by omega) (by omega) (by omega)]; exact q5 i hi
  · obtain ⟨s1, s2, s3⟩ := s s' hs'
    refine ⟨by rw [R 109 _ (by omega) (by omega) (by omega) (by omega)]; exact s1, by rw [R 110 _ (by omega) (by omega) (by omega) (by omega)]; exact s2, fun k hk => by rw [R 111 _ (by omega) (by omega) (by omega) (by omega)]; exact s3 k hk⟩
  · rw [R 95 k (by omega) (by omega) (by omega) (by omega)]; exact k1 k hk
  · rw [R 96 k (by omega) (by omega) (by omega) (by omega)]; exact k2 k hk
def keepX (μ ν : Mem) : Prop := ∀ a, a < 82 → ν a = μ a
theorem keepX.rf (μ : Mem) : keepX μ μ := fun _ _ => rfl
theorem keepX.tr {μ ν ξ : Mem} (h1 : keepX μ ν) (h2 : keepX ν ξ) : keepX μ ξ := fun a ha => (h2 a ha).trans (h1 a ha)
theorem keepX.set {μ : Mem} {a k : Nat} {v : Int32} (ha : 82 ≤ a) : keepX μ (mset μ a k v) := fun b hb => mset_ne (by omega)
abbrev pubM (G : GW) (m : MK) (d : Nat) (lv : List (Nat × Value)) (α μ : Mem) (w : Value) (β : Mem) : Prop := Ev2 G m d 0 lv [] μ (fun v μ' => v = some w ∧ VM β μ' ∧ keepX μ μ')
/-- only rows of a stretch have changed -/
def onlyM (lo hi : Nat) (μ ν : Mem) : Prop := ∀ a, ¬ (lo ≤ a ∧ a ≤ hi) → ν a = μ a
theorem onlyM.rf (lo hi : Nat) (μ : Mem) : onlyM lo hi μ μ := fun _ _ => rfl
theorem onlyM.tr {lo hi : Nat} {μ ν ξ : Mem} (h1 : onlyM lo hi μ ν) (h2 : onlyM lo hi ν ξ) : onlyM lo hi μ ξ := fun a ha => (h2 a ha).trans (h1 a ha)
theorem onlyM.wide {lo hi lo' hi' : Nat} {μ ν : Mem} (h : onlyM lo hi μ ν) (h1 : lo' ≤ lo) (h2 : hi ≤ hi') : onlyM lo' hi' μ ν := fun a ha => h a (by omega)
theorem onlyM.set {lo hi a k : Nat} {μ : Mem} {v : Int32} (h1 : lo ≤ a) (h2 : a ≤ hi) : onlyM lo hi μ (mset μ a k v) := fun b hb => mset_ne (by omega)
theorem VM.only {α μ ν : Mem} (h : VM α μ) (hf : wfC α) {lo hi : Nat} (ho : onlyM lo hi μ ν) (h1 : 97 ≤ lo) (h2 : hi ≤ 106) : VM α ν := h.same hf (fun a k ha hs _ => by rw [ho a (fun q => hs (Or.inr (Or.inl ⟨by omega, by omega⟩)))])
theorem onlyM.keep {lo hi : Nat} {μ ν : Mem} (h : onlyM lo hi μ ν) (h1 : 82 ≤ lo) : keepX μ ν := fun a ha => h a (by omega)
theorem VM.n {α μ : Mem} (hf : WF α) (h : VM α μ) : μ 82 4 = nI (aN α) := h.1.1.trans hf.1.1.1
theorem vH' {α : Mem} (hf : WF α) {x : Int32} (hx : inB x 0 (α 0 0 - 1) = true) : ∃ i, i < aN α ∧ i < 7 ∧ x = nI i := by
  have := hf.1.1.2
  rw [hf.1.1.1] at hx
  obtain ⟨p, hp, rfl⟩ := inB_lt (by omega) hx
  exact ⟨p, hp, by omega, rfl⟩
theorem vR' {α : Mem} (hf : WF α) {x : Int32} (hx : inB x 0 (α 0 1 - 1) = true) : ∃ i, i < aR α ∧ i < 4 ∧ x = nI i := by
  have := hf.1.2.1.2
  rw [hf.1.2.1.1] at hx
  obtain ⟨p, hp, rfl⟩ := inB_lt (by omega) hx
  exact ⟨p, hp, by omega, rfl⟩
theorem inB_p {x : Int32} (h : inB x 0 6 = true) : ∃ p, p < 7 ∧ x = nI p := by
  obtain ⟨p, hp, rfl⟩ := inB_nI (m := 6) (by omega) h
  exact ⟨p, by omega, rfl⟩
theorem inB_7 {p : Nat} (h : p < 7) : inB (nI p) 0 6 = true := inB_of (m := 6) (by omega) (by omega)
theorem inB_h {α : Mem} (hf : WF α) {i : Nat} (h : i < aN α) : inB (nI i) 0 (α 0 0 - 1) = true := by
  have := hf.1.1.2
  rw [hf.1.1.1]
  exact inB_of_lt (by omega) h
theorem inB_r {α : Mem} (hf : WF α) {i : Nat} (h : i < aR α) : inB (nI i) 0 (α 0 1 - 1) = true := by
  have := hf.1.2.1.2
  rw [hf.1.2.1.1]
  exact inB_of_lt (by omega) h
/-! ===== the reference: what is such a thing; walks; horses ===== -/
def walkN (μ : Mem) (a b : Nat) (v : Int32) : Mem := mset (mset μ 83 (7 * a + b) v) 83 (7 * b + a) v
def horseN (μ : Mem) (h : Nat) (k f t td m : Int32) : Mem := mset (mset (mset (mset (mset (mset μ 86 h k) 87 h f) 88 h t) 89 h td) 90 h m) 91 h 0
theorem sg_X8_isIn_0 {G : GW} {K : Option Value → Mem → Prop} {μ : Mem} {x0 x1 x2 : Int32}  (h : ((x0 < x1) → K (some (.int 0)) μ) ∧ ((¬ (x0 < x1)) → ((x2 < x0) → K (some (.int 0)) μ) ∧ ((¬ (x2 < x0)) → K (some (.int 1)) μ))) : Ev2 G mX8_isIn 1 0 [(0, .int x0), (1, .int x1), (2, .int x2)] [] μ K := by
  refine ev_iload_n dX8_isIn_0 0 rfl ?_
  refine ev_iload_n dX8_isIn_1 1 rfl ?_
  refine ev_icmp_lt (tgt := 14) dX8_isIn_2 rfl (fun c1 => ?_) (fun c1 => ?_)
  · have h2 := h.1 c1
    refine ev_iconst (v := 0) dX8_isIn_14 rfl ?_
    exact ev_ireturn dX8_isIn_15 rfl rfl rfl rfl ⟨rfl, h2⟩
  · have h3 := h.2 c1
    refine ev_iload_n dX8_isIn_5 0 rfl ?_
    refine ev_iload_n dX8_isIn_6 2 rfl ?_
    refine ev_icmp_gt (tgt := 14) dX8_isIn_7 rfl (fun c4 => ?_) (fun c4 => ?_)
    · have h5 := h3.1 c4
      refine ev_iconst (v := 0) dX8_isIn_14 rfl ?_
      exact ev_ireturn dX8_isIn_15 rfl rfl rfl rfl ⟨rfl, h5⟩
    · have h6 := h3.2 c4
      refine ev_iconst (v := 1) dX8_isIn_10 rfl ?_
      refine ev_goto (tgt := 15) dX8_isIn_11 rfl ?_
      exact ev_ireturn dX8_isIn_15 rfl rfl rfl rfl ⟨rfl, h6⟩
theorem ct_X8_isIn {G : GW} (x0 x1 x2 : Int32) (μ : Mem) : Ev2 G mX8_isIn 1 0 [(0, .int x0), (1, .int x1), (2, .int x2)] [] μ (fun v μ' => v = some (.int (bi (inB x0 x1 x2))) ∧ μ' = μ) := by
  refine sg_X8_isIn_0 ?_
  repeat' (first | intro _ | apply And.intro)
  all_goals simp_all [inB, bi, ← Int32.not_lt]
theorem sg_X8_isPlace_0 {G : GW} {K : Option Value → Mem → Prop} {μ : Mem} {x0 : Int32}  (h : K (some (.int (bi (inB x0 (0 : Int32) (6 : Int32))))) μ) : Ev2 G mX8_isPlace 2 0 [(0, .int x0)] [] μ K := by
  refine ev_iload_n dX8_isPlace_0 0 rfl ?_
  refine ev_iconst (v := 0) dX8_isPlace_1 rfl ?_
  refine ev_bipush (v := 6) dX8_isPlace_2 rfl ?_
  refine e2_callS (w := .int (bi (inB x0 (0 : Int32) (6 : Int32)))) (μ1 := μ) (as := [.int x0, .int 0, .int 6]) (st := []) ok_X8_isIn sv_X8_isIn ml_8_3 dX8_isPlace_4 rfl rfl (Nat.le_of_ble_eq_true rfl) (Nat.le_of_ble_eq_true rfl) (by decide) (ct_X8_isIn (x0) (0) (6) μ) ?_
  exact ev_ireturn dX8_isPlace_7 rfl (nb_bi _) rfl rfl ⟨rfl, h⟩
theorem ct_X8_isPlace {G : GW} (x0 : Int32) (μ : Mem) : Ev2 G mX8_isPlace 2 0 [(0, .int x0)] [] μ (fun v μ' => v = some (.int (bi (inB x0 0 6))) ∧ μ' = μ) := sg_X8_isPlace_0 ⟨rfl, rfl⟩
theorem sg_X8_isSheet_0 {G : GW} {K : Option Value → Mem → Prop} {μ : Mem} {x0 : Int32}  (h : K (some (.int (bi (inB x0 (0 : Int32) (3 : Int32))))) μ) : Ev2 G mX8_isSheet 2 0 [(0, .int x0)] [] μ K := by
  refine ev_iload_n dX8_isSheet_0 0 rfl ?_
  refine ev_iconst (v := 0) dX8_isSheet_1 rfl ?_
  refine ev_iconst (v := 3) dX8_isSheet_2 rfl ?_
  refine e2_callS (w := .int (bi (inB x0 (0 : Int32) (3 : Int32)))) (μ1 := μ) (as := [.int x0, .int 0, .int 3]) (st := []) ok_X8_isIn sv_X8_isIn ml_8_3 dX8_isSheet_3 rfl rfl (Nat.le_of_ble_eq_true rfl) (Nat.le_of_ble_eq_true rfl) (by decide) (ct_X8_isIn (x0) (0) (3) μ) ?_
  exact ev_ireturn dX8_isSheet_6 rfl (nb_bi _) rfl rfl ⟨rfl, h⟩
theorem ct_X8_isSheet {G : GW} (x0 : Int32) (μ : Mem) : Ev2 G mX8_isSheet 2 0 [(0, .int x0)] [] μ (fun v μ' => v = some (.int (bi (inB x0 0 3))) ∧ μ' = μ) := sg_X8_isSheet_0 ⟨rfl, rfl⟩
theorem sg_X8_isHorse_0 {G : GW} {K : Option Value → Mem → Prop} {μ : Mem} {x1 : Int32}  (h : K (some (.int (bi (inB x1 (0 : Int32) ((μ 82 4) - 1))))) μ) : Ev2 G mX8_isHorse 2 0 [(0, .ref 82), (1, .int x1)] [] μ K := by
  refine ev_iload_n dX8_isHorse_0 1 rfl ?_
  refine ev_iconst (v := 0) dX8_isHorse_1 rfl ?_
  refine ev_aload_n dX8_isHorse_2 0 rfl (by decide) ?_
  refine ev_getI' (v := (μ 82 4)) fl_8_7 rfl kd_82 rfl dX8_isHorse_3 ?_
  refine ev_iconst (v := 1) dX8_isHorse_6 rfl ?_
  refine ev_isub dX8_isHorse_7 ?_
  refine e2_callS (w := .int (bi (inB x1 (0 : Int32) ((μ 82 4) - 1)))) (μ1 := μ) (as := [.int x1, .int 0, .int ((μ 82 4) - 1)]) (st := []) ok_X8_isIn sv_X8_isIn ml_8_3 dX8_isHorse_8 rfl rfl (Nat.le_of_ble_eq_true rfl) (Nat.le_of_ble_eq_true rfl) (by decide) (ct_X8_isIn (x1) (0) (((μ 82 4) - 1)) μ) ?_
  exact ev_ireturn dX8_isHorse_11 rfl (nb_bi _) rfl rfl ⟨rfl, h⟩
theorem ct_X8_isHorse {G : GW} (x1 : Int32) (μ : Mem) : Ev2 G mX8_isHorse 2 0 [(0, .ref 82), (1, .int x1)] [] μ (fun v μ' => v = some (.int (bi (inB x1 0 (μ 82 4 - 1)))) ∧ μ' = μ) := sg_X8_isHorse_0 ⟨rfl, rfl⟩
theorem sg_X8_isRide_0 {G : GW} {K : Option Value → Mem → Prop} {μ : Mem} {x1 : Int32}  (h : K (some (.int (bi (inB x1 (0 : Int32) ((μ 82 1) - 1))))) μ) : Ev2 G mX8_isRide 2 0 [(0, .ref 82), (1, .int x1)] [] μ K := by
  refine ev_iload_n dX8_isRide_0 1 rfl ?_
  refine ev_iconst (v := 0) dX8_isRide_1 rfl ?_
  refine ev_aload_n dX8_isRide_2 0 rfl (by decide) ?_
  refine ev_getI' (v := (μ 82 1)) fl_8_11 rfl kd_82 rfl dX8_isRide_3 ?_
  refine ev_iconst (v := 1) dX8_isRide_6 rfl ?_
  refine ev_isub dX8_isRide_7 ?_
  refine e2_callS (w := .int (bi (inB x1 (0 : Int32) ((μ 82 1) - 1)))) (μ1 := μ) (as := [.int x1, .int 0, .int ((μ 82 1) - 1)]) (st := []) ok_X8_isIn sv_X8_isIn ml_8_3 dX8_isRide_8 rfl rfl (Nat.le_of_ble_eq_true rfl) (Nat.le_of_ble_eq_true rfl) (by decide) (ct_X8_isIn (x1) (0) (((μ 82 1) - 1)) μ) ?_
  exact ev_ireturn dX8_isRide_11 rfl (nb_bi _) rfl rfl ⟨rfl, h⟩
theorem ct_X8_isRide {G : GW} (x1 : Int32) (μ : Mem) : Ev2 G mX8_isRide 2 0 [(0, .ref 82), (1, .int x1)] [] μ (fun v μ' => v = some (.int (bi (inB x1 0 (μ 82 1 - 1)))) ∧ μ' = μ) := sg_X8_isRide_0 ⟨rfl, rfl⟩
theorem sg_X8_everyOne_0 {G : GW} {K : Option Value → Mem → Prop} {μ : Mem}   (h : K (some (.int (((1 : Int32) <<< ((μ 82 4) &&& 31)) - 1))) μ) : Ev2 G mX8_everyOne 1 0 [(0, .ref 82)] [] μ K := by
  refine ev_iconst (v := 1) dX8_everyOne_0 rfl ?_
  refine ev_aload_n dX8_everyOne_1 0 rfl (by decide) ?_
  refine ev_getI' (v := (μ 82 4)) fl_8_7 rfl kd_82 rfl dX8_everyOne_2 ?_
  refine ev_ishl dX8_everyOne_5 ?_
  refine ev_iconst (v := 1) dX8_everyOne_6 rfl ?_
  refine ev_isub dX8_everyOne_7 ?_
  exact ev_ireturn dX8_everyOne_8 rfl True.intro rfl rfl ⟨rfl, h⟩
theorem ct_X8_everyOne {G : GW} (μ : Mem) : Ev2 G mX8_everyOne 1 0 [(0, .ref 82)] [] μ (fun v μ' => v = some (.int ((1 <<< (μ 82 4 &&& 31)) - 1)) ∧ μ' = μ) := sg_X8_everyOne_0 ⟨rfl, rfl⟩
theorem sg_X8_walkIs_0 {G : GW} {K : Option Value → Mem → Prop} {μ : Mem} {x1 x2 x3 : Int32}  (h : (vp_in ((7 * x1) + x2) 49) ∧ (vp_in ((7 * x2) + x1) 49) ∧ K none (mset (mset μ 83 ((7 * x1) + x2).toNatClampNeg x3) 83 ((7 * x2) + x1).toNatClampNeg x3)) : Ev2 G mX8_walkIs 1 0 [(0, .ref 82), (1, .int x1), (2, .int x2), (3, .int x3)] [] μ K := by
  refine ev_aload_n dX8_walkIs_0 0 rfl (by decide) ?_
  refine ev_getR' fl_8_14 rfl kd_82 rf_82_0 dX8_walkIs_1 ?_
  refine ev_bipush (v := 7) dX8_walkIs_4 rfl ?_
  refine ev_iload_n dX8_walkIs_6 1 rfl ?_
  refine ev_imul dX8_walkIs_7 ?_
  refine ev_iload_n dX8_walkIs_8 2 rfl ?_
  refine ev_iadd dX8_walkIs_9 ?_
  refine ev_iload_n dX8_walkIs_10 3 rfl ?_
  have p1 := h.1
  have h2 := h.2
  refine ev_iastore' (j := ((7 * x1) + x2).toNatClampNeg) kd_83 ln_83 p1 rfl dX8_walkIs_11 ?_
  refine ev_aload_n dX8_walkIs_12 0 rfl (by decide) ?_
  refine ev_getR' fl_8_14 rfl kd_82 rf_82_0 dX8_walkIs_13 ?_
  refine ev_bipush (v := 7) dX8_walkIs_16 rfl ?_
  refine ev_iload_n dX8_walkIs_18 2 rfl ?_
  refine ev_imul dX8_walkIs_19 ?_
  refine ev_iload_n dX8_walkIs_20 1 rfl ?_
  refine ev_iadd dX8_walkIs_21 ?_
  refine ev_iload_n dX8_walkIs_22 3 rfl ?_
  have p3 := h2.1
  have h4 := h2.2
  refine ev_iastore' (j := ((7 * x2) + x1).toNatClampNeg) kd_83 ln_83 p3 rfl dX8_walkIs_23 ?_
  exact ev_return dX8_walkIs_24 rfl rfl rfl ⟨rfl, h4⟩
theorem ix_7 {a b : Nat} (ha : a < 7) (hb : b < 7) : vp_in (7 * nI a + nI b) 49 ∧ (7 * nI a + nI b).toNatClampNeg = 7 * a + b := by
  have e : 7 * nI a + nI b = nI (7 * a + b) := by
    rw [show (7 : Int32) = nI 7 from rfl, pk_mul, nI_add]
  rw [e, ix_nI (by omega)]
  exact ⟨vp_nI (by omega) (by omega), rfl⟩
theorem ct_X8_walkIs {G : GW} (x1 x2 x3 : Int32) (μ : Mem) (hp : vp_in x1 7 ∧ vp_in x2 7) : Ev2 G mX8_walkIs 1 0 [(0, .ref 82), (1, .int x1), (2, .int x2), (3, .int x3)] [] μ (fun v μ' => v = none ∧ μ' = walkN μ x1.toNatClampNeg x2.toNatClampNeg x3) := by
  obtain ⟨a, ha, rfl⟩ := vp_in_of hp.1 (by omega)
  obtain ⟨b, hb, rfl⟩ := vp_in_of hp.2 (by omega)
  obtain ⟨h1, h2⟩ := ix_7 ha hb
  obtain ⟨h3, h4⟩ := ix_7 hb ha
  refine sg_X8_walkIs_0 ⟨h1, h3, rfl, ?_⟩
  rw [h2, h4, ix_nI (by omega), ix_nI (by omega)]
  rfl
theorem sg_X8_horseIs_0 {G : GW} {K : Option Value → Mem → Prop} {μ : Mem} {x1 x2 x3 x4 x5 x6 : Int32}  (h : (vp_in x1 8) ∧ (vp_in x1 8) ∧ (vp_in x1 8) ∧ (vp_in x1 8) ∧ (vp_in x1 8) ∧ (vp_in x1 8) ∧ K none (mset (mset (mset (mset (mset (mset μ 86 x1.toNatClampNeg x2) 87 x1.toNatClampNeg x3) 88 x1.toNatClampNeg x4) 89 x1.toNatClampNeg x5) 90 x1.toNatClampNeg x6) 91 x1.toNatClampNeg 0)) : Ev2 G mX8_horseIs 1 0 [(0, .ref 82), (1, .int x1), (2, .int x2), (3, .int x3), (4, .int x4), (5, .int x5), (6, .int x6)] [] μ K := by
  refine ev_aload_n dX8_horseIs_0 0 rfl (by decide) ?_
  refine ev_getR' fl_8_35 rfl kd_82 rf_82_5 dX8_horseIs_1 ?_
  refine ev_iload_n dX8_horseIs_4 1 rfl ?_
  refine ev_iload_n dX8_horseIs_5 2 rfl ?_
  have p1 := h.1
  have h2 := h.2
  refine ev_iastore' (j := x1.toNatClampNeg) kd_86 ln_86 p1 rfl dX8_horseIs_6 ?_
  refine ev_aload_n dX8_horseIs_7 0 rfl (by decide) ?_
  refine ev_getR' fl_8_38 rfl kd_82 rf_82_6 dX8_horseIs_8 ?_
  refine ev_iload_n dX8_horseIs_11 1 rfl ?_
  refine ev_iload_n dX8_horseIs_12 3 rfl ?_
  have p3 := h2.1
  have h4 := h2.2
  refine ev_iastore' (j := x1.toNatClampNeg) kd_87 ln_87 p3 rfl dX8_horseIs_13 ?_
  refine ev_aload_n dX8_horseIs_14 0 rfl (by decide) ?_
  refine ev_getR' fl_8_41 rfl kd_82 rf_82_7 dX8_horseIs_15 ?_
  refine ev_iload_n dX8_horseIs_18 1 rfl ?_
  refine ev_iload dX8_horseIs_19 4 rfl ?_
  have p5 := h4.1
  have h6 := h4.2
  refine ev_iastore' (j := x1.toNatClampNeg) kd_88 ln_88 p5 rfl dX8_horseIs_21 ?_
  refine ev_aload_n dX8_horseIs_22 0 rfl (by decide) ?_
  refine ev_getR' fl_8_44 rfl kd_82 rf_82_8 dX8_horseIs_23 ?_
  refine ev_iload_n dX8_horseIs_26 1 rfl ?_
  refine ev_iload dX8_horseIs_27 5 rfl ?_
  have p7 := h6.1
  have h8 := h6.2
  refine ev_iastore' (j := x1.toNatClampNeg) kd_89 ln_89 p7 rfl dX8_horseIs_29 ?_
  refine ev_aload_n dX8_horseIs_30 0 rfl (by decide) ?_
  refine ev_getR' fl_8_47 rfl kd_82 rf_82_9 dX8_horseIs_31 ?_
  refine ev_iload_n dX8_horseIs_34 1 rfl ?_
  refine ev_iload dX8_horseIs_35 6 rfl ?_
  have p9 := h8.1
  have h10 := h8.2
  refine ev_iastore' (j := x1.toNatClampNeg) kd_90 ln_90 p9 rfl dX8_horseIs_37 ?_
  refine ev_aload_n dX8_horseIs_38 0 rfl (by decide) ?_
  refine ev_getR' fl_8_50 rfl kd_82 rf_82_10 dX8_horseIs_39 ?_
  refine ev_iload_n dX8_horseIs_42 1 rfl ?_
  refine ev_iconst (v := 0) dX8_horseIs_43 rfl ?_
  have p11 := h10.1
  have h12 := h10.2
  refine ev_iastore' (j := x1.toNatClampNeg) kd_91 ln_91 p11 rfl dX8_horseIs_44 ?_
  exact ev_return dX8_horseIs_45 rfl rfl rfl ⟨rfl, h12⟩
theorem ct_X8_horseIs {G : GW} (x1 x2 x3 x4 x5 x6 : Int32) (μ : Mem) (hp : vp_in x1 8) : Ev2 G mX8_horseIs 1 0 [(0, .ref 82), (1, .int x1), (2, .int x2), (3, .int x3), (4, .int x4), (5, .int x5), (6, .int x6)] [] μ (fun v μ' => v = none ∧ μ' = horseN μ x1.toNatClampNeg x2 x3 x4 x5 x6) := sg_X8_horseIs_0 ⟨hp, hp, hp, hp, hp, hp, rfl, rfl⟩
theorem sg_X8_done_0 {G : GW} {K : Option Value → Mem → Prop} {μ : Mem} {x0 x1 x2 : Int32}  (h : (x0 = 11 → ((x1 = 0) → K (some (.int 0)) μ) ∧ ((¬ (x1 = 0)) → ((x2 = 0) → K (some (.int 0)) μ) ∧ ((¬ (x2 = 0)) → K (some (.int 1)) μ))) ∧ (x0 = 12 → ((¬ x1 = 0) → K (some (.int 1)) μ) ∧ ((x1 = 0) → ((x2 = 0) → K (some (.int 0)) μ) ∧ ((¬ (x2 = 0)) → K (some (.int 1)) μ))) ∧ (x0 = 13 → ((x2 ≤ x1) → K (some (.int 0)) μ) ∧ ((¬ (x2 ≤ x1)) → K (some (.int 1)) μ)) ∧ (x0 = 14 → ((¬ x1 = x2) → K (some (.int 0)) μ) ∧ ((x1 = x2) → K (some (.int 1)) μ)) ∧ (x0 = 15 → K (some (.int (x1 + x2))) μ) ∧ (x0 = 16 → K (some (.int (x1 - x2))) μ) ∧ (x0 = 17 → K (some (.int (x1 * x2))) μ) ∧ (¬ x0 = 11 → ¬ x0 = 12 → ¬ x0 = 13 → ¬ x0 = 14 → ¬ x0 = 15 → ¬ x0 = 16 → ¬ x0 = 17 → ((¬ x1 = 0) → K (some (.int 1)) μ) ∧ ((x1 = 0) → ((x2 = 0) → K (some (.int 0)) μ) ∧ ((¬ (x2 = 0)) → K (some (.int 1)) μ)))) : Ev2 G mX8_done 1 0 [(0, .int x0), (1, .int x1), (2, .int x2)] [] μ K := by
  refine ev_iload_n dX8_done_0 0 rfl ?_
  rcases Decidable.em (x0 = 11) with c1 | c1
  · have h2 := h.1 c1
    refine ev_tabIn (off := 77) (tgt := 78) 11 dX8_done_1 c1 (by decide) ?_
    refine ev_iload_n dX8_done_78 1 rfl ?_
    refine ev_if_eq (tgt := 90) dX8_done_79 rfl (fun c4 => ?_) (fun c4 => ?_)
    · have h5 := h2.1 c4
      refine ev_iconst (v := 0) dX8_done_90 rfl ?_
      exact ev_ireturn dX8_done_91 rfl True.intro rfl rfl ⟨rfl, h5⟩
    · have h6 := h2.2 c4
      refine ev_iload_n dX8_done_82 2 rfl ?_
      refine ev_if_eq (tgt := 90) dX8_done_83 rfl (fun c7 => ?_) (fun c7 => ?_)
      · have h8 := h6.1 c7
        refine ev_iconst (v := 0) dX8_done_90 rfl ?_
        exact ev_ireturn dX8_done_91 rfl True.intro rfl rfl ⟨rfl, h8⟩
      · have h9 := h6.2 c7
        refine ev_iconst (v := 1) dX8_done_86 rfl ?_
        refine ev_goto (tgt := 91) dX8_done_87 rfl ?_
        exact ev_ireturn dX8_done_91 rfl True.intro rfl rfl ⟨rfl, h9⟩
  · have h3 := h.2
    rcases Decidable.em (x0 = 12) with c10 | c10
    · have h11 := h3.1 c10
      refine ev_tabIn (off := 91) (tgt := 92) 12 dX8_done_1 c10 (by decide) ?_
      refine ev_iload_n dX8_done_92 1 rfl ?_
      refine ev_if_ne (tgt := 100) dX8_done_93 rfl (fun c13 => ?_) (fun c13 => ?_)
      · have h14 := h11.1 c13
        refine ev_iconst (v := 1) dX8_done_100 rfl ?_
        refine ev_goto (tgt := 105) dX8_done_101 rfl ?_
        exact ev_ireturn dX8_done_105 rfl True.intro rfl rfl ⟨rfl, h14⟩
      · have h15 := h11.2 c13
        refine ev_iload_n dX8_done_96 2 rfl ?_
        refine ev_if_eq (tgt := 104) dX8_done_97 rfl (fun c16 => ?_) (fun c16 => ?_)
        · have h17 := h15.1 c16
          refine ev_iconst (v := 0) dX8_done_104 rfl ?_
          exact ev_ireturn dX8_done_105 rfl True.intro rfl rfl ⟨rfl, h17⟩
        · have h18 := h15.2 c16
          refine ev_iconst (v := 1) dX8_done_100 rfl ?_
          refine ev_goto (tgt := 105) dX8_done_101 rfl ?_
          exact ev_ireturn dX8_done_105 rfl True.intro rfl rfl ⟨rfl, h18⟩
    · have h12 := h3.2
      rcases Decidable.em (x0 = 13) with c19 | c19
      · have h20 := h12.1 c19
        refine ev_tabIn (off := 55) (tgt := 56) 13 dX8_done_1 c19 (by decide) ?_
        refine ev_iload_n dX8_done_56 1 rfl ?_
        refine ev_iload_n dX8_done_57 2 rfl ?_
        refine ev_icmp_ge (tgt := 65) dX8_done_58 rfl (fun c22 => ?_) (fun c22 => ?_)
        · have h23 := h20.1 c22
          refine ev_iconst (v := 0) dX8_done_65 rfl ?_
          exact ev_ireturn dX8_done_66 rfl True.intro rfl rfl ⟨rfl, h23⟩
        · have h24 := h20.2 c22
          refine ev_iconst (v := 1) dX8_done_61 rfl ?_
          refine ev_goto (tgt := 66) dX8_done_62 rfl ?_
          exact ev_ireturn dX8_done_66 rfl True.intro rfl rfl ⟨rfl, h24⟩
      · have h21 := h12.2
        rcases Decidable.em (x0 = 14) with c25 | c25
        · have h26 := h21.1 c25
          refine ev_tabIn (off := 66) (tgt := 67) 14 dX8_done_1 c25 (by decide) ?_
          refine ev_iload_n dX8_done_67 1 rfl ?_
          refine ev_iload_n dX8_done_68 2 rfl ?_
          refine ev_icmp_ne (tgt := 76) dX8_done_69 rfl (fun c28 => ?_) (fun c28 => ?_)
          · have h29 := h26.1 c28
            refine ev_iconst (v := 0) dX8_done_76 rfl ?_
            exact ev_ireturn dX8_done_77 rfl True.intro rfl rfl ⟨rfl, h29⟩
          · have h30 := h26.2 c28
            refine ev_iconst (v := 1) dX8_done_72 rfl ?_
            refine ev_goto (tgt := 77) dX8_done_73 rfl ?_
            exact ev_ireturn dX8_done_77 rfl True.intro rfl rfl ⟨rfl, h30⟩
        · have h27 := h21.2
          rcases Decidable.em (x0 = 15) with c31 | c31
          · have h32 := h27.1 c31
            refine ev_tabIn (off := 43) (tgt := 44) 15 dX8_done_1 c31 (by decide) ?_
            refine ev_iload_n dX8_done_44 1 rfl ?_
            refine ev_iload_n dX8_done_45 2 rfl ?_
            refine ev_iadd dX8_done_46 ?_
            exact ev_ireturn dX8_done_47 rfl True.intro rfl rfl ⟨rfl, h32⟩
          · have h33 := h27.2
            rcases Decidable.em (x0 = 16) with c34 | c34
            · have h35 := h33.1 c34
              refine ev_tabIn (off := 47) (tgt := 48) 16 dX8_done_1 c34 (by decide) ?_
              refine ev_iload_n dX8_done_48 1 rfl ?_
              refine ev_iload_n dX8_done_49 2 rfl ?_
              refine ev_isub dX8_done_50 ?_
              exact ev_ireturn dX8_done_51 rfl True.intro rfl rfl ⟨rfl, h35⟩
            · have h36 := h33.2
              rcases Decidable.em (x0 = 17) with c37 | c37
              · have h38 := h36.1 c37
                refine ev_tabIn (off := 51) (tgt := 52) 17 dX8_done_1 c37 (by decide) ?_
                refine ev_iload_n dX8_done_52 1 rfl ?_
                refine ev_iload_n dX8_done_53 2 rfl ?_
                refine ev_imul dX8_done_54 ?_
                exact ev_ireturn dX8_done_55 rfl True.intro rfl rfl ⟨rfl, h38⟩
              · have h39 := h36.2
                have tc1 := tz_ne (z := 11) c1 (by decide)
                have tc10 := tz_ne (z := 12) c10 (by decide)
                have tc19 := tz_ne (z := 13) c19 (by decide)
                have tc25 := tz_ne (z := 14) c25 (by decide)
                have tc31 := tz_ne (z := 15) c31 (by decide)
                have tc34 := tz_ne (z := 16) c34 (by decide)
                have tc37 := tz_ne (z := 17) c37 (by decide)
                have h40 := h39 c1 c10 c19 c25 c31 c34 c37
                refine ev_tabOut (tgt := 92) dX8_done_1 (by omega) rfl ?_
                refine ev_iload_n dX8_done_92 1 rfl ?_
                refine ev_if_ne (tgt := 100) dX8_done_93 rfl (fun c41 => ?_) (fun c41 => ?_)
                · have h42 := h40.1 c41
                  refine ev_iconst (v := 1) dX8_done_100 rfl ?_
                  refine ev_goto (tgt := 105) dX8_done_101 rfl ?_
                  exact ev_ireturn dX8_done_105 rfl True.intro rfl rfl ⟨rfl, h42⟩
                · have h43 := h40.2 c41
                  refine ev_iload_n dX8_done_96 2 rfl ?_
                  refine ev_if_eq (tgt := 104) dX8_done_97 rfl (fun c44 => ?_) (fun c44 => ?_)
                  · have h45 := h43.1 c44
                    refine ev_iconst (v := 0) dX8_done_104 rfl ?_
                    exact ev_ireturn dX8_done_105 rfl True.intro rfl rfl ⟨rfl, h45⟩
                  · have h46 := h43.2 c44
                    refine ev_iconst (v := 1) dX8_done_100 rfl ?_
                    refine ev_goto (tgt := 105) dX8_done_101 rfl ?_
                    exact ev_ireturn dX8_done_105 rfl True.intro rfl rfl ⟨rfl, h46⟩
theorem ct_X8_done {G : GW} (x0 x1 x2 : Int32) (μ : Mem) : Ev2 G mX8_done 1 0 [(0, .int x0), (1, .int x1), (2, .int x2)] [] μ (fun v μ' => v = some (.int (doneF x0 x1 x2)) ∧ μ' = μ) := by
  refine sg_X8_done_0 ?_
  repeat' (first | intro _ | apply And.intro)
  all_goals simp_all [doneF, bi, ← Int32.not_lt]
theorem sg_X8_whither_0 {G : GW} {K : Option Value → Mem → Prop} {μ : Mem} {α : Mem} (hf : WF α) {x1 x2 : Int32}  (h : (vp_in x1 8) ∧ (((μ 86 x1.toNatClampNeg) = 1) → Ev2 G mX8_whither 1 26 [(0, .ref 82), (1, .int x1), (2, .int x2), (3, .int 1)] [] μ K) ∧ ((¬ ((μ 86 x1.toNatClampNeg) = 1)) → (vp_in x1 8) ∧ ((¬ (μ 86 x1.toNatClampNeg) = 3) → Ev2 G mX8_whither 1 26 [(0, .ref 82), (1, .int x1), (2, .int x2), (3, .int 0)] [] μ K) ∧ (((μ 86 x1.toNatClampNeg) = 3) → Ev2 G mX8_whither 1 26 [(0, .ref 82), (1, .int x1), (2, .int x2), (3, .int 1)] [] μ K))) : Ev2 G mX8_whither 1 0 [(0, .ref 82), (1, .int x1), (2, .int x2)] [] μ K := by
  refine ev_aload_n dX8_whither_0 0 rfl (by decide) ?_
  refine ev_getR' fl_8_35 rfl kd_82 rf_82_5 dX8_whither_1 ?_
  refine ev_iload_n dX8_whither_4 1 rfl ?_
  have p1 := h.1
  have h2 := h.2
  refine ev_iaload' (v := (μ 86 x1.toNatClampNeg)) kd_86 ln_86 p1 rfl dX8_whither_5 ?_
  refine ev_iconst (v := 1) dX8_whither_6 rfl ?_
  refine ev_icmp_eq (tgt := 20) dX8_whither_7 rfl (fun c3 => ?_) (fun c3 => ?_)
  · have h4 := h2.1 c3
    refine ev_iconst (v := 1) dX8_whither_20 rfl ?_
    refine ev_goto (tgt := 25) dX8_whither_21 rfl ?_
    refine ev_istore_n (lv' := [(0, .ref 82), (1, .int x1), (2, .int x2), (3, .int 1)]) dX8_whither_25 (by decide) [1, 2, 3, 0] rfl ?_
    exact h4
  · have h5 := h2.2 c3
    refine ev_aload_n dX8_whither_10 0 rfl (by decide) ?_
    refine ev_getR' fl_8_35 rfl kd_82 rf_82_5 dX8_whither_11 ?_
    refine ev_iload_n dX8_whither_14 1 rfl ?_
    have p6 := h5.1
    have h7 := h5.2
    refine ev_iaload' (v := (μ 86 x1.toNatClampNeg)) kd_86 ln_86 p6 rfl dX8_whither_15 ?_
    refine ev_iconst (v := 3) dX8_whither_16 rfl ?_
    refine ev_icmp_ne (tgt := 24) dX8_whither_17 rfl (fun c8 => ?_) (fun c8 => ?_)
    · have h9 := h7.1 c8
      refine ev_iconst (v := 0) dX8_whither_24 rfl ?_
      refine ev_istore_n (lv' := [(0, .ref 82), (1, .int x1), (2, .int x2), (3, .int 0)]) dX8_whither_25 (by decide) [1, 2, 3, 0] rfl ?_
      exact h9
    · have h10 := h7.2 c8
      refine ev_iconst (v := 1) dX8_whither_20 rfl ?_
      refine ev_goto (tgt := 25) dX8_whither_21 rfl ?_
      refine ev_istore_n (lv' := [(0, .ref 82), (1, .int x1), (2, .int x2), (3, .int 1)]) dX8_whither_25 (by decide) [1, 2, 3, 0] rfl ?_
      exact h10
theorem sg_X8_whither_26 {G : GW} {K : Option Value → Mem → Prop} {μ : Mem} {α : Mem} (hf : WF α) {x1 x2 x3 : Int32}  (h : (vp_in x1 8) ∧ ((¬ x2 = (μ 87 x1.toNatClampNeg)) → ((x3 = 0) → Ev2 G mX8_whither 1 71 [(0, .ref 82), (1, .int x1), (4, .int (-1))] [] μ K) ∧ ((¬ (x3 = 0)) → (vp_in x1 8) ∧ ((¬ x2 = (μ 88 x1.toNatClampNeg)) → Ev2 G mX8_whither 1 71 [(0, .ref 82), (1, .int x1), (4, .int (-1))] [] μ K) ∧ ((x2 = (μ 88 x1.toNatClampNeg)) → (vp_in x1 8) ∧ Ev2 G mX8_whither 1 71 [(0, .ref 82), (1, .int x1), (4, .int (μ 87 x1.toNatClampNeg))] [] μ K))) ∧ ((x2 = (μ 87 x1.toNatClampNeg)) → (vp_in x1 8) ∧ Ev2 G mX8_whither 1 71 [(0, .ref 82), (1, .int x1), (4, .int (μ 88 x1.toNatClampNeg))] [] μ K)) : Ev2 G mX8_whither 1 26 [(0, .ref 82), (1, .int x1), (2, .int x2), (3, .int x3)] [] μ K := by
  refine ev_iload_n dX8_whither_26 2 rfl ?_
  refine ev_aload_n dX8_whither_27 0 rfl (by decide) ?_
  refine ev_getR' fl_8_38 rfl kd_82 rf_82_6 dX8_whither_28 ?_
  refine ev_iload_n dX8_whither_31 1 rfl ?_
  have p1 := h.1
  have h2 := h.2
  refine ev_iaload' (v := (μ 87 x1.toNatClampNeg)) kd_87 ln_87 p1 rfl dX8_whither_32 ?_
  refine ev_icmp_ne (tgt := 45) dX8_whither_33 rfl (fun c3 => ?_) (fun c3 => ?_)
  · have h4 := h2.1 c3
    refine ev_iload_n dX8_whither_45 3 rfl ?_
    refine ev_if_eq (tgt := 68) dX8_whither_46 rfl (fun c6 => ?_) (fun c6 => ?_)
    · have h7 := h4.1 c6
      refine ev_iconst (v := (-1)) dX8_whither_68 rfl ?_
      refine ev_istore (lv' := [(0, .ref 82), (1, .int x1), (2, .int x2), (3, .int x3), (4, .int (-1))]) dX8_whither_69 (by decide) [1, 2, 3, 4, 0] rfl ?_
      refine EvW.less [0, 1, 4] (lv' := [(0, .ref 82), (1, .int x1), (4, .int (-1))]) rfl ?_
      exact h7
    · have h8 := h4.2 c6
      refine ev_iload_n dX8_whither_49 2 rfl ?_
      refine ev_aload_n dX8_whither_50 0 rfl (by decide) ?_
      refine ev_getR' fl_8_41 rfl kd_82 rf_82_7 dX8_whither_51 ?_
      refine ev_iload_n dX8_whither_54 1 rfl ?_
      have p9 := h8.1
      have h10 := h8.2
      refine ev_iaload' (v := (μ 88 x1.toNatClampNeg)) kd_88 ln_88 p9 rfl dX8_whither_55 ?_
      refine ev_icmp_ne (tgt := 68) dX8_whither_56 rfl (fun c11 => ?_) (fun c11 => ?_)
      · have h12 := h10.1 c11
        refine ev_iconst (v := (-1)) dX8_whither_68 rfl ?_
        refine ev_istore (lv' := [(0, .ref 82), (1, .int x1), (2, .int x2), (3, .int x3), (4, .int (-1))]) dX8_whither_69 (by decide) [1, 2, 3, 4, 0] rfl ?_
        refine EvW.less [0, 1, 4] (lv' := [(0, .ref 82), (1, .int x1), (4, .int (-1))]) rfl ?_
        exact h12
      · have h13 := h10.2 c11
        refine ev_aload_n dX8_whither_59 0 rfl (by decide) ?_
        refine ev_getR' fl_8_38 rfl kd_82 rf_82_6 dX8_whither_60 ?_
        refine ev_iload_n dX8_whither_63 1 rfl ?_
        have p14 := h13.1
        have h15 := h13.2
        refine ev_iaload' (v := (μ 87 x1.toNatClampNeg)) kd_87 ln_87 p14 rfl dX8_whither_64 ?_
        refine ev_goto (tgt := 69) dX8_whither_65 rfl ?_
        refine ev_istore (lv' := [(0, .ref 82), (1, .int x1), (2, .int x2), (3, .int x3), (4, .int (μ 87 x1.toNatClampNeg))]) dX8_whither_69 (by decide) [1, 2, 3, 4, 0] rfl ?_
        refine EvW.less [0, 1, 4] (lv' := [(0, .ref 82), (1, .int x1), (4, .int (μ 87 x1.toNatClampNeg))]) rfl ?_
        exact h15
  · have h5 := h2.2 c3
    refine ev_aload_n dX8_whither_36 0 rfl (by decide) ?_
    refine ev_getR' fl_8_41 rfl kd_82 rf_82_7 dX8_whither_37 ?_
    refine ev_iload_n dX8_whither_40 1 rfl ?_
    have p16 := h5.1
    have h17 := h5.2
    refine ev_iaload' (v := (μ 88 x1.toNatClampNeg)) kd_88 ln_88 p16 rfl dX8_whither_41 ?_
    refine ev_goto (tgt := 69) dX8_whither_42 rfl ?_
    refine ev_istore (lv' := [(0, .ref 82), (1, .int x1), (2, .int x2), (3, .int x3), (4, .int (μ 88 x1.toNatClampNeg))]) dX8_whither_69 (by decide) [1, 2, 3, 4, 0] rfl ?_
    refine EvW.less [0, 1, 4] (lv' := [(0, .ref 82), (1, .int x1), (4, .int (μ 88 x1.toNatClampNeg))]) rfl ?_
    exact h17
theorem sg_X8_whither_71 {G : GW} {K : Option Value → Mem → Prop} {μ : Mem} {α : Mem} (hf : WF α) {x1 x4 : Int32}  (h : ((¬ x4 = (-1)) → (vp_in x1 8) ∧ ((¬ (μ 86 x1.toNatClampNeg) = 3) → (vp_in x1 8) ∧ ((¬ (μ 86 x1.toNatClampNeg) = 5) → K (some (.int x4)) μ) ∧ (((μ 86 x1.toNatClampNeg) = 5) → (vp_in x1 8) ∧ K (some (.int ((μ 90 x1.toNatClampNeg) - (μ 90 x1.toNatClampNeg) / 7 * 7))) μ)) ∧ (((μ 86 x1.toNatClampNeg) = 3) → K (some (.int ((x4 + 1) - (x4 + 1) / 7 * 7))) μ)) ∧ ((x4 = (-1)) → K (some (.int (-1))) μ)) : Ev2 G mX8_whither 1 71 [(0, .ref 82), (1, .int x1), (4, .int x4)] [] μ K := by
  refine ev_iload dX8_whither_71 2 rfl ?_
  refine ev_iconst (v := (-1)) dX8_whither_73 rfl ?_
  refine ev_icmp_ne (tgt := 79) dX8_whither_74 rfl (fun c1 => ?_) (fun c1 => ?_)
  · have h2 := h.1 c1
    refine ev_aload_n dX8_whither_79 0 rfl (by decide) ?_
    refine ev_getR' fl_8_35 rfl kd_82 rf_82_5 dX8_whither_80 ?_
    refine ev_iload_n dX8_whither_83 1 rfl ?_
    have p4 := h2.1
    have h5 := h2.2
    refine ev_iaload' (v := (μ 86 x1.toNatClampNeg)) kd_86 ln_86 p4 rfl dX8_whither_84 ?_
    refine ev_iconst (v := 3) dX8_whither_85 rfl ?_
    refine ev_icmp_ne (tgt := 99) dX8_whither_86 rfl (fun c6 => ?_) (fun c6 => ?_)
    · have h7 := h5.1 c6
      refine ev_aload_n dX8_whither_99 0 rfl (by decide) ?_
      refine ev_getR' fl_8_35 rfl kd_82 rf_82_5 dX8_whither_100 ?_
      refine ev_iload_n dX8_whither_103 1 rfl ?_
      have p9 := h7.1
      have h10 := h7.2
      refine ev_iaload' (v := (μ 86 x1.toNatClampNeg)) kd_86 ln_86 p9 rfl dX8_whither_104 ?_
      refine ev_iconst (v := 5) dX8_whither_105 rfl ?_
      refine ev_icmp_ne (tgt := 121) dX8_whither_106 rfl (fun c11 => ?_) (fun c11 => ?_)
      · have h12 := h10.1 c11
        refine ev_iload dX8_whither_121 2 rfl ?_
        exact ev_ireturn dX8_whither_123 rfl True.intro rfl rfl ⟨rfl, h12⟩
      · have h13 := h10.2 c11
        refine ev_aload_n dX8_whither_109 0 rfl (by decide) ?_
        refine ev_getR' fl_8_47 rfl kd_82 rf_82_9 dX8_whither_110 ?_
        refine ev_iload_n dX8_whither_113 1 rfl ?_
        have p14 := h13.1
        have h15 := h13.2
        refine ev_iaload' (v := (μ 90 x1.toNatClampNeg)) kd_90 ln_90 p14 rfl dX8_whither_114 ?_
        refine ev_bipush (v := 7) dX8_whither_115 rfl ?_
        refine ev_irem dX8_whither_117 (by decide) ?_
        refine ev_goto (tgt := 123) dX8_whither_118 rfl ?_
        exact ev_ireturn dX8_whither_123 rfl True.intro rfl rfl ⟨rfl, h15⟩
    · have h8 := h5.2 c6
      refine ev_iload dX8_whither_89 2 rfl ?_
      refine ev_iconst (v := 1) dX8_whither_91 rfl ?_
      refine ev_iadd dX8_whither_92 ?_
      refine ev_bipush (v := 7) dX8_whither_93 rfl ?_
      refine ev_irem dX8_whither_95 (by decide) ?_
      refine ev_goto (tgt := 123) dX8_whither_96 rfl ?_
      exact ev_ireturn dX8_whither_123 rfl True.intro rfl rfl ⟨rfl, h8⟩
  · have h3 := h.2 c1
    refine ev_iconst (v := (-1)) dX8_whither_77 rfl ?_
    exact ev_ireturn dX8_whither_78 rfl True.intro rfl rfl ⟨rfl, h3⟩
theorem VM.h1 {α μ : Mem} (h : VM α μ) {i : Nat} (hi : i < aN α) : μ 86 i = α 4 i ∧ μ 87 i = α 5 i ∧ μ 88 i = α 6 i ∧ μ 89 i = α 7 i ∧ μ 90 i = α 8 i ∧ μ 91 i = α 9 i := ⟨h.2.2.2.1 i hi 0 (by omega), h.2.2.2.1 i hi 1 (by omega), h.2.2.2.1 i hi 2 (by omega), h.2.2.2.1 i hi 3 (by omega), h.2.2.2.1 i hi 4 (by omega), h.2.2.2.1 i hi 5 (by omega)⟩
theorem ct_X8_whither {G : GW} {α : Mem} (hf : WF α) (x1 x2 : Int32) (μ : Mem) (hp : VM α μ ∧ inB x1 0 (α 0 0 - 1) = true ∧ inB x2 0 6 = true) : Ev2 G mX8_whither 1 0 [(0, .ref 82), (1, .int x1), (2, .int x2)] [] μ (fun v μ' => v = some (.int (goA α x1.toNatClampNeg x2.toNatClampNeg)) ∧ μ' = μ) := by
  obtain ⟨hv, h1, h2⟩ := hp
  obtain ⟨i, hi, hi7, rfl⟩ := vH' hf h1
  obtain ⟨p, hp, rfl⟩ := inB_p h2
  obtain ⟨e1, e2, e3, -, e5, -⟩ := hv.h1 hi
  obtain ⟨⟨k, hk, ek⟩, ⟨f, hff, ef⟩, ⟨t, ht, et⟩, -, -, ⟨m, hm, em⟩, -⟩ := hf.2.2.2.1 i hi
  rw [ek] at e1
  rw [ef] at e2
  rw [et] at e3
  rw [em] at e5
  have hv8 : vp_in (nI i) 8 := vp_nI (by omega) (by omega)
  have nf := nI_m (q := f) (by omega)
  have nt := nI_m (q := t) (by omega)
  have goal : ∀ g, (g = -1 ∨ ∃ q, q < 7 ∧ g = nI q) → goesF (nI k) (nI f) (nI t) (nI m) (nI p) = (if g = -1 then -1 else if nI k = 3 then irem (g + 1) 7 else if nI k = 5 then irem (nI m) 7 else g) → Ev2 G mX8_whither 1 71 [(0, .ref 82), (1, .int (nI i)), (4, .int g)] [] μ (fun v μ' => v = some (.int (goesF (nI k) (nI f) (nI t) (nI m) (nI p))) ∧ μ' = μ) := by
    intro g _ hg
    rw [hg]
    refine sg_X8_whither_71 hf ⟨fun c => ⟨hv8, fun c3 => ⟨hv8, fun c5 => ?_, fun c5 => ⟨hv8, ?_⟩⟩, fun c3 => ?_⟩, fun c => ?_⟩
    · rw [ix_nI (by omega), e1] at c3 c5
      rw [if_neg c, if_neg c3, if_neg c5]
      exact ⟨rfl, rfl⟩
    · rw [ix_nI (by omega), e1] at c3 c5
      rw [ix_nI (by omega), e5, if_neg c, if_neg c3, if_pos c5]
      exact ⟨rfl, rfl⟩
    · rw [ix_nI (by omega), e1] at c3
      rw [if_neg c, if_pos c3]
      exact ⟨rfl, rfl⟩
    · rw [if_pos c]
      exact ⟨rfl, rfl⟩
  have eg : goA α i p = goesF (nI k) (nI f) (nI t) (nI m) (nI p) := by
    unfold goA
    rw [ek, ef, et, em]
  have mid : ∀ b : Int32, (b = 0 ∨ b = 1) → (b = 1 ↔ (nI k = 1 ∨ nI k = 3)) → Ev2 G mX8_whither 1 26 [(0, .ref 82), (1, .int (nI i)), (2, .int (nI p)), (3, .int b)] [] μ (fun v μ' => v = some (.int (goesF (nI k) (nI f) (nI t) (nI m) (nI p))) ∧ μ' = μ) := by
    intro b hb hbk
    refine sg_X8_whither_26 hf ⟨hv8, fun c => ⟨fun cb => goal _ (Or.inl rfl) ?_, fun cb => ⟨hv8, fun ct => goal _ (Or.inl rfl) ?_, fun ct => ⟨hv8, ?_⟩⟩⟩, fun c => ⟨hv8, ?_⟩⟩
    · rw [ix_nI (by omega), e2] at c
      have hn : ¬ (nI k = 1 ∨ nI k = 3) := fun z => by
        rw [hbk.mpr z] at cb
        exact absurd cb (by decide)
      have n1 : ¬ nI k = 1 := fun z => hn (Or.inl z)
      have n3 : ¬ nI k = 3 := fun z => hn (Or.inr z)
      simp [goesF, n1, n3, c]
    · rw [ix_nI (by omega)] at c ct
      rw [e2] at c
      rw [e3] at ct
      simp [goesF, toFro, c, ct]
    · rw [ix_nI (by omega)] at c ct ⊢
      rw [e2] at c ⊢
      rw [e3] at ct
      refine goal _ (Or.inr ⟨f, hff, rfl⟩) ?_
      have hk13 := hbk.mp (hb.resolve_left cb)
      rw [ct] at c
      rcases hk13 with z | z <;> simp [goesF, toFro, c, ct, nf, z]
    · rw [ix_nI (by omega)] at c ⊢
      rw [e2] at c
      rw [e3]
      refine goal _ (Or.inr ⟨t, ht, rfl⟩) ?_
      rw [c]
      by_cases z1 : nI k = 1
      · simp [goesF, toFro, nt, z1]
      · by_cases z3 : nI k = 3
        · simp [goesF, toFro, nt, z3]
        · by_cases z5 : nI k = 5
          · simp [goesF, nt, z5]
          · simp [goesF, nt, z1, z3, z5]
  rw [ix_nI (i := i) (by omega), ix_nI (i := p) (by omega), eg]
  refine sg_X8_whither_0 hf ⟨hv8, fun c => ?_, fun c => ⟨hv8, fun c3 => ?_, fun c3 => ?_⟩⟩
  · rw [ix_nI (by omega), e1] at c
    exact mid 1 (Or.inr rfl) ⟨fun _ => Or.inl c, fun _ => rfl⟩
  · rw [ix_nI (by omega), e1] at c c3
    exact mid 0 (Or.inl rfl) ⟨fun z => absurd z (by decide), fun z => z.elim (fun z => absurd z c) (fun z => absurd z c3)⟩
  · rw [ix_nI (by omega), e1] at c3
    exact mid 1 (Or.inr rfl) ⟨fun _ => Or.inr c3, fun _ => rfl⟩
