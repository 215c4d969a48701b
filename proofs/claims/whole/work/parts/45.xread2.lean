/-! ===== the class's reader: all levels, a text ===== -/
theorem lp_X2_readSum {G : GW} {F : Nat} (hA : ∀ F', F' < F → MC G mX2_readTerm F' 1) {f : Nat → Int32} {n t k o d : Nat} (ht : isTx t) (ho : o ≤ 5) (hd : 20 + 8 * (5 - o) + 2 ≤ d) : ∀ j, j ≤ F → ∀ (i m : Nat) (s : Bool × Nat) (r : (Bool × Nat) × List Int32) (μ : Mem), rd (tkT f n) (nvT f n) j 12 o s = some r → rdA f n t k m s μ → i ≤ 160 → (s.1 = true → i ≤ s.2) → Ev2 G mX2_readSum d 8 [(0, .ref 23), (1, .ref t), (2, .int (nI o)), (3, .int (nI i))] [] μ (fun v ν => v = none ∧ rdC f n t k m s r.1 r.2 μ ν) := by
  intro j
  induction j with
  | zero =>
    intro _ i m s r μ hr
    rw [rd] at hr
    cases hr
  | succ j ih =>
    intro hj i m s r μ hr ha hi160 hi
    rw [rd_12] at hr
    have e23 := ha.tk
    rcases rdLoop_some hr with ⟨c, rfl⟩ | ⟨c, r1, r2, h1, h2, rfl⟩
    · simp only [op15, Bool.or_eq_false_iff, decide_eq_false_iff_not] at c
      refine sg_X2_readSum_8 (by omega) MC.no ht ?_
      rw [e23]
      exact ⟨fun _ => ⟨rfl, ha.nil⟩, fun _ => ⟨fun q => absurd q c.1, fun _ => ⟨fun _ => ⟨rfl, ha.nil⟩, fun q => absurd q c.2⟩⟩⟩
    · simp only [op15, Bool.or_eq_true, decide_eq_true_eq] at c
      have c22 : tkS (tkT f n) s ≠ 22 := by rcases c with c | c <;> (rw [c]; decide)
      have c21 : tkS (tkT f n) s ≠ 21 := by rcases c with c | c <;> (rw [c]; decide)
      obtain ⟨hs, hm, h160, ht1, hf1⟩ := ha.take ht rfl c22 c21
      have key : ∀ ν, rdC f n t (k + 1) m (s.1, s.2 + 1) r1.1 r1.2 (expM μ (tkS (tkT f n) s)) ν → Ev2 G mX2_readSum d 8 [(0, .ref 23), (1, .ref t), (2, .int (nI o)), (3, .int (nI i + 1))] [] (textAdd ν t (tkS (tkT f n) s)) (fun v ν => v = none ∧ rdC f n t k m s r2.1 (r1.2 ++ (tkS (tkT f n) s :: r2.2)) μ ν) := by
        intro ν hν
        have hν2 := hν.add ht (tkS (tkT f n) s)
        obtain ⟨m1, g1, g2, g3⟩ := hν2.on
        rw [nI_1]
        have hx := ih (by omega) (i + 1) m1 r1.1 r2 _ h2 g3 (by have := hi hs; omega) (fun q => by have h7 : s.2 + 1 ≤ r1.1.2 := (hν.2.2.2 q).2.1; have := hi hs; omega)
        refine ev2_imp hx ?_
        rintro v ξ ⟨hv, hξ⟩
        refine ⟨hv, ?_⟩
        have hj := (hν2.join g1 g2 hξ).pre hf1 (s := s) (fun _ => ⟨hs, by show s.2 ≤ s.2 + 1; omega⟩)
        rw [List.append_assoc] at hj
        exact hj
      refine sg_X2_readSum_8 (by omega) ((hA j (by omega)).at (d := d - 1) ho (by omega) h1 ht1) ht ?_
      rw [e23]
      exact ⟨fun q => absurd q (nI_ge (b := 160) (by have := hi hs; omega) (by omega)), fun _ => ⟨fun _ => ⟨ha.tp, ⟨rfl, rfl, rfl⟩, fun ν hν => ⟨hν.sz, key ν hν⟩⟩, fun q1 => ⟨fun q2 => absurd c (fun q => q.elim q1 q2), fun _ => ⟨ha.tp, ⟨rfl, rfl, rfl⟩, fun ν hν => ⟨hν.sz, key ν hν⟩⟩⟩⟩⟩
theorem mc_readTerm {G : GW} {F : Nat} (hA : ∀ F', F' < F + 1 → MC G mX2_readOne F' 0) : MC G mX2_readTerm (F + 1) 1 := by
  intro f n t k m o d s r μ ht ho hd hr ha
  rw [rd_1] at hr
  obtain ⟨r1, r2, h1, h2, rfl⟩ := rdSeq_some hr
  refine sg_X2_readTerm_0 (by omega) ((hA F (by omega)).at (d := d - 1) ho (by omega) h1 ha) ht ⟨⟨rfl, rfl, rfl⟩, fun ν hν => ?_⟩
  obtain ⟨m1, g1, g2, g3⟩ := hν.on
  have hx := lp_X2_readTerm hA ht ho hd F (by omega) 0 m1 r1.1 r2 ν h2 g3 (by omega) (fun _ => Nat.zero_le _)
  refine ev2_imp hx ?_
  rintro v ξ ⟨hv, hξ⟩
  exact ⟨hv, hν.join g1 g2 hξ⟩
theorem mc_readSum {G : GW} {F : Nat} (hA : ∀ F', F' < F + 1 → MC G mX2_readTerm F' 1) : MC G mX2_readSum (F + 1) 2 := by
  intro f n t k m o d s r μ ht ho hd hr ha
  rw [rd_2] at hr
  obtain ⟨r1, r2, h1, h2, rfl⟩ := rdSeq_some hr
  refine sg_X2_readSum_0 (by omega) ((hA F (by omega)).at (d := d - 1) ho (by omega) h1 ha) ht ⟨⟨rfl, rfl, rfl⟩, fun ν hν => ?_⟩
  obtain ⟨m1, g1, g2, g3⟩ := hν.on
  have hx := lp_X2_readSum hA ht ho hd F (by omega) 0 m1 r1.1 r2 ν h2 g3 (by omega) (fun _ => Nat.zero_le _)
  refine ev2_imp hx ?_
  rintro v ξ ⟨hv, hξ⟩
  exact ⟨hv, hν.join g1 g2 hξ⟩
theorem mc_readAnd {G : GW} {F : Nat} (hA : ∀ F', F' < F + 1 → MC G mX2_readNot F' 4) : MC G mX2_readAnd (F + 1) 5 := by
  intro f n t k m o d s r μ ht ho hd hr ha
  rw [rd_5] at hr
  obtain ⟨r1, r2, h1, h2, rfl⟩ := rdSeq_some hr
  refine sg_X2_readAnd_0 (by omega) ((hA F (by omega)).at (d := d - 1) ho (by omega) h1 ha) ht ⟨⟨rfl, rfl, rfl⟩, fun ν hν => ?_⟩
  obtain ⟨m1, g1, g2, g3⟩ := hν.on
  have hx := lp_X2_readAnd hA ht ho hd F (by omega) 0 m1 r1.1 r2 ν h2 g3 (by omega) (fun _ => Nat.zero_le _)
  refine ev2_imp hx ?_
  rintro v ξ ⟨hv, hξ⟩
  exact ⟨hv, hν.join g1 g2 hξ⟩
theorem mc_readOr {G : GW} {F : Nat} (hA : ∀ F', F' < F + 1 → MC G mX2_readAnd F' 5) : MC G mX2_readOr (F + 1) 6 := by
  intro f n t k m o d s r μ ht ho hd hr ha
  rw [rd_6] at hr
  obtain ⟨r1, r2, h1, h2, rfl⟩ := rdSeq_some hr
  refine sg_X2_readOr_0 (by omega) ((hA F (by omega)).at (d := d - 1) ho (by omega) h1 ha) ht ⟨⟨rfl, rfl, rfl⟩, fun ν hν => ?_⟩
  obtain ⟨m1, g1, g2, g3⟩ := hν.on
  have hx := lp_X2_readOr hA ht ho hd F (by omega) 0 m1 r1.1 r2 ν h2 g3 (by omega) (fun _ => Nat.zero_le _)
  refine ev2_imp hx ?_
  rintro v ξ ⟨hv, hξ⟩
  exact ⟨hv, hν.join g1 g2 hξ⟩
theorem mc_readComparison {G : GW} {F : Nat} (hA : MC G mX2_readSum F 2) : MC G mX2_readComparison (F + 1) 3 := by
  intro f n t k m o d s r μ ht ho hd hr ha
  rw [rd_3] at hr
  obtain ⟨r1, h1, h2⟩ := bind_some' hr
  refine sg_X2_readComparison_0 (by omega) (hA.at (d := d - 1) ho (by omega) h1 ha) ht ⟨⟨rfl, rfl, rfl⟩, fun ν hν => ?_⟩
  obtain ⟨m1, g1, g2, g3⟩ := hν.on
  have e23 := g3.tk
  split at h2
  · rename_i c
    obtain ⟨q, h3, h4⟩ := bind_some' h2
    cases h4
    have c22 : tkS (tkT f n) r1.1 ≠ 22 := by rcases c with c | c <;> (rw [c]; decide)
    have c21 : tkS (tkT f n) r1.1 ≠ 21 := by rcases c with c | c <;> (rw [c]; decide)
    obtain ⟨hs, hm, h160, ht1, hf1⟩ := g3.take ht rfl c22 c21
    have key : ∀ ξ, rdC f n t (k + 1) m1 (r1.1.1, r1.1.2 + 1) q.1 q.2 (expM ν (tkS (tkT f n) r1.1)) ξ → (none : Option Value) = none ∧ rdC f n t k m s q.1 (r1.2 ++ (q.2 ++ [tkS (tkT f n) r1.1])) μ (textAdd ξ t (tkS (tkT f n) r1.1)) := by
      intro ξ hξ
      refine ⟨rfl, hν.join g1 g2 ((hξ.add ht _).pre hf1 (fun _ => ⟨hs, by show r1.1.2 ≤ r1.1.2 + 1; omega⟩))⟩
    refine sg_X2_readComparison_6 (by omega) (hA.at (d := d - 1) ho (by omega) h3 ht1) ht ?_
    rw [e23]
    exact ⟨fun _ => ⟨g3.tp, ⟨rfl, rfl, rfl⟩, fun ξ hξ => ⟨hξ.sz, key ξ hξ⟩⟩, fun q1 => ⟨fun q2 => absurd c (fun q => q.elim q1 q2), fun _ => ⟨g3.tp, ⟨rfl, rfl, rfl⟩, fun ξ hξ => ⟨hξ.sz, key ξ hξ⟩⟩⟩⟩
  · rename_i c
    cases h2
    refine sg_X2_readComparison_6 (by omega) MC.no ht ?_
    rw [e23]
    exact ⟨fun q => absurd (Or.inl q) c, fun _ => ⟨fun _ => ⟨rfl, hν⟩, fun q => absurd (Or.inr q) c⟩⟩
theorem lt5 {o : Nat} (ho : o ≤ 5) : (nI o < 5 ↔ o < 5) ∧ (5 ≤ nI o ↔ 5 ≤ o) := ⟨nI_ltI (b := 5) (by omega) (by omega), nI_leI (a := 5) (by omega) (by omega)⟩
theorem mc_readNot {G : GW} {F : Nat} (hA : MC G mX2_readComparison F 3) (hB : MC G mX2_readNot F 4) : MC G mX2_readNot (F + 1) 4 := by
  intro f n t k m o d s r μ ht ho hd hr ha
  rw [rd_4] at hr
  have e23 := ha.tk
  unfold rdNot at hr
  by_cases c : tkS (tkT f n) s = 5
  · rw [if_pos c] at hr
    obtain ⟨hs, hm, h160, ht1, hf1⟩ := ha.take ht c (by decide) (by decide)
    by_cases c5 : o < 5
    · rw [if_pos c5] at hr
      obtain ⟨r1, h1, h2⟩ := bind_some' hr
      cases h2
      refine sg_X2_readNot_0 (by omega) MC.no (hB.at (d := d - 1) (o := o + 1) (by omega) (by omega) h1 ht1) ht ⟨fun _ => ⟨fun _ => ⟨ha.tp, ⟨rfl, nI_1 o, rfl⟩, fun ν hν => ⟨hν.sz, rfl, (hν.add ht 5).pre hf1 (fun _ => ⟨hs, by show s.2 ≤ s.2 + 1; omega⟩)⟩⟩, fun q => absurd ((lt5 ho).1.mpr c5) q⟩, fun q => absurd (e23.trans c) q⟩
    · rw [if_neg c5] at hr
      cases hr
      exact sg_X2_readNot_0 (by omega) MC.no MC.no ht ⟨fun _ => ⟨fun q => absurd ((lt5 ho).1.mp q) c5, fun _ => ⟨rfl, ha.fail ht⟩⟩, fun q => absurd (e23.trans c) q⟩
  · rw [if_neg c] at hr
    exact sg_X2_readNot_0 (by omega) (hA.at (d := d - 1) ho (by omega) hr ha) MC.no ht ⟨fun q => absurd (e23.symm.trans q) c, fun _ => ⟨⟨rfl, rfl, rfl⟩, fun ν hν => ⟨rfl, hν⟩⟩⟩
/-- a step is added, then a token taken -/
theorem rdA.put {f : Nat → Int32} {n t k m : Nat} {s : Bool × Nat} {μ : Mem} (ht : isTx t) (h : rdA f n t k m s μ) {w v : Int32} (hw : tkS (tkT f n) s = w) (h22 : w ≠ 22) (h21 : w ≠ 21) : (∃ n p, tpP n p (textAdd μ t v)) ∧ textAdd μ t v 23 1 = w ∧ rdC f n t k m s (s.1, s.2 + 1) [v] μ (expM (textAdd μ t v) w) := by
  obtain ⟨hs, hm, h160, ht1, hf1⟩ := h.take ht hw h22 h21
  obtain ⟨a1, a2, a3, a4⟩ := h
  obtain ⟨f1, f2, f3, f4, f5, f6⟩ := textAdd_fr (m := m) (v := v) ht a2 a3 (Nat.le_refl m)
  obtain ⟨f6, f7⟩ := f6 (by omega)
  have a1' := a1.row f3 f4 f5
  obtain ⟨e1, e2, e3⟩ := expM_fr (μ := textAdd μ t v) (w := w) (m := m + 1) ht
  have hx := a1'.exp h22
  have ex : exS (tkT f n) s w = (s.1, s.2 + 1) := if_pos hw
  rw [ex] at hx
  refine ⟨a1'.tp, by rw [f3, a1.2.2.2.1, hw], hx, f1.tr (by omega) e1, ⟨m + 1, by omega, by omega, by rw [e2]; exact f6⟩, fun _ => ⟨hs, Nat.le_succ _, ?_, (ht1.2.2.2 hs).2, by rw [e2]; exact f6, fun i hi => ?_⟩⟩
  · have := (a4 hs).1
    show m + 1 + k ≤ s.2 + 1
    omega
  · have : i = 0 := by
      simp only [List.length_cons, List.length_nil] at hi
      omega
    subst this
    rw [e3]
    exact f7
theorem mc_readOne {G : GW} {F : Nat} (hA : MC G mX2_readOne F 0) (hB : MC G mX2_readOr F 6) : MC G mX2_readOne (F + 1) 0 := by
  intro f n t k m o d s r μ ht ho hd hr ha
  rw [rd_0] at hr
  have e23 := ha.tk
  unfold rdOne at hr
  by_cases c20 : tkS (tkT f n) s = 20
  · rw [if_pos c20] at hr
    cases hr
    have hs := tkS_alive (tk := tkT f n) (s := s) (by rw [c20]; decide)
    have e4 : μ 24 4 = nvT f n s.2 := (ha.1.2.2.2.2.1 hs).2.2.2 (by have : tkS (tkT f n) s = tkT f n s.2 := if_pos hs
                                                                    rw [← this]; exact c20)
    obtain ⟨p1, p2, p3⟩ := ha.put ht (v := 100 + nvT f n s.2) c20 (by decide) (by decide)
    refine sg_X2_readOne_0 (by omega) MC.no MC.no ht ⟨fun q => absurd (e23.trans c20) q, fun _ => ⟨ha.sz, ?_, rfl, ?_⟩⟩
    · rw [e4]; exact p1
    · rw [e4]; exact p3
  · rw [if_neg c20] at hr
    by_cases cn : inB (tkS (tkT f n) s) 6 11 = true
    · rw [if_pos cn] at hr
      cases hr
      have cb := inB_t.mp cn
      have c22 : tkS (tkT f n) s ≠ 22 := fun q => by rw [q] at cn; exact absurd cn (by decide)
      have c21 : tkS (tkT f n) s ≠ 21 := fun q => by rw [q] at cn; exact absurd cn (by decide)
      obtain ⟨p1, p2, p3⟩ := ha.put ht (v := tkS (tkT f n) s) rfl c22 c21
      refine sg_X2_readOne_0 (by omega) MC.no MC.no ht ?_
      rw [e23]
      exact ⟨fun _ => ⟨fun q => absurd cn (by rw [q]; decide), fun _ => ⟨ha.sz, p1, rfl, by rw [p2]; exact p3⟩⟩, fun q => absurd q c20⟩
    · rw [if_neg cn] at hr
      have cn' : inB (tkS (tkT f n) s) 6 11 = false := by simpa using cn
      by_cases c5 : 5 ≤ o
      · rw [if_pos c5] at hr
        cases hr
        refine sg_X2_readOne_0 (by omega) MC.no MC.no ht ?_
        rw [e23]
        exact ⟨fun _ => ⟨fun _ => ⟨fun _ => ⟨rfl, ha.fail ht⟩, fun q => absurd ((lt5 ho).2.mpr c5) q⟩, fun q => absurd q (by rw [cn']; decide)⟩, fun q => absurd q c20⟩
      · rw [if_neg c5] at hr
        by_cases c16 : tkS (tkT f n) s = 16
        · rw [if_pos c16] at hr
          obtain ⟨r1, h1, h2⟩ := bind_some' hr
          cases h2
          obtain ⟨hs, hm, h160, ht1, hf1⟩ := ha.take ht c16 (by decide) (by decide)
          have key : ∀ ν, rdC f n t (k + 1) m (s.1, s.2 + 1) r1.1 r1.2 (expM μ 16) ν → (none : Option Value) = none ∧ rdC f n t k m s r1.1 (r1.2 ++ [23]) μ (textAdd ν t 23) := fun ν hν => ⟨rfl, (hν.add ht 23).pre hf1 (fun _ => ⟨hs, by show s.2 ≤ s.2 + 1; omega⟩)⟩
          refine sg_X2_readOne_0 (by omega) (hA.at (d := d - 1) (o := o + 1) (by omega) (by omega) h1 ht1) MC.no ht ?_
          rw [e23]
          exact ⟨fun _ => ⟨fun _ => ⟨fun q => absurd ((lt5 ho).2.mp q) c5, fun _ => ⟨fun _ => ⟨fun q => absurd c16 q, fun _ => ⟨ha.tp, ⟨rfl, nI_1 o, rfl⟩, fun ν hν => ⟨hν.sz, key ν hν⟩⟩⟩, fun q => absurd c16 q⟩⟩, fun q => absurd q (by rw [cn']; decide)⟩, fun q => absurd q c20⟩
        · rw [if_neg c16] at hr
          by_cases c12 : tkS (tkT f n) s = 12
          · rw [if_pos c12] at hr
            obtain ⟨r1, h1, h2⟩ := bind_some' hr
            cases h2
            obtain ⟨hs, hm, h160, ht1, hf1⟩ := ha.take ht c12 (by decide) (by decide)
            have key : ∀ ν, rdC f n t (k + 1) m (s.1, s.2 + 1) r1.1 r1.2 (expM μ 12) ν → (none : Option Value) = none ∧ rdC f n t k m s (exS (tkT f n) r1.1 13) r1.2 μ (expM ν 13) := fun ν hν => by
              have h2 := (hν.exp ht (w := 13) (by decide) (by decide)).pre hf1 (s := s) (fun _ => ⟨hs, by show s.2 ≤ s.2 + 1; omega⟩)
              obtain ⟨a1, a2, a3, a4⟩ := h2
              exact ⟨rfl, a1, a2, a3, fun q => by
                obtain ⟨b1, b2, b3, b4⟩ := a4 q
                exact ⟨b1, b2, by omega, b4⟩⟩
            refine sg_X2_readOne_0 (by omega) MC.no (hB.at (d := d - 1) (o := o + 1) (by omega) (by omega) h1 ht1) ht ?_
            rw [e23]
            exact ⟨fun _ => ⟨fun _ => ⟨fun q => absurd ((lt5 ho).2.mp q) c5, fun _ => ⟨fun q => absurd q c16, fun _ => ⟨fun _ => ⟨fun _ => ⟨ha.tp, ⟨rfl, nI_1 o, rfl⟩, fun ν hν => ⟨hν.tp, key ν hν⟩⟩, fun q => absurd q c16⟩, fun q => absurd c12 q⟩⟩⟩, fun q => absurd q (by rw [cn']; decide)⟩, fun q => absurd q c20⟩
          · rw [if_neg c12] at hr
            cases hr
            refine sg_X2_readOne_0 (by omega) MC.no MC.no ht ?_
            rw [e23]
            exact ⟨fun _ => ⟨fun _ => ⟨fun q => absurd ((lt5 ho).2.mp q) c5, fun _ => ⟨fun q => absurd q c16, fun _ => ⟨fun q => absurd q c12, fun _ => ⟨rfl, ha.fail ht⟩⟩⟩⟩, fun q => absurd q (by rw [cn']; decide)⟩, fun q => absurd q c20⟩
def MCs (G : GW) (F : Nat) : Prop := MC G mX2_readOne F 0 ∧ MC G mX2_readTerm F 1 ∧ MC G mX2_readSum F 2 ∧ MC G mX2_readComparison F 3 ∧ MC G mX2_readNot F 4 ∧ MC G mX2_readAnd F 5 ∧ MC G mX2_readOr F 6
theorem mc_none {G : GW} {M : MK} {L : Nat} : MC G M 0 L := by
  intro f n t k m o d s r μ ht ho hd hr
  rw [rd] at hr
  cases hr
theorem mc_upto (G : GW) : ∀ F, ∀ F', F' < F → MCs G F' := by
  intro F
  induction F with
  | zero => intro F' h; omega
  | succ F ih =>
    intro F' h
    cases F' with
    | zero => exact ⟨mc_none, mc_none, mc_none, mc_none, mc_none, mc_none, mc_none⟩
    | succ F' =>
      have g : ∀ F'', F'' < F' + 1 → MCs G F'' := fun F'' h'' => ih F'' (by omega)
      have gl := g F' (by omega)
      exact ⟨mc_readOne gl.1 gl.2.2.2.2.2.2, mc_readTerm (fun q hq => (g q hq).1), mc_readSum (fun q hq => (g q hq).2.1), mc_readComparison gl.2.2.1, mc_readNot gl.2.2.2.1 gl.2.2.2.2.1, mc_readAnd (fun q hq => (g q hq).2.2.2.2.1), mc_readOr (fun q hq => (g q hq).2.2.2.2.2.1)⟩
theorem mc_Or (G : GW) (F : Nat) : MC G mX2_readOr F 6 := (mc_upto G (F + 1) F (by omega)).2.2.2.2.2.2
