/-! ===== the reference's text() ===== -/
def fT (t : Nat) (μ ν : Mem) : Prop := ∀ a k, ¬ (a = 82 ∧ ((17 ≤ k ∧ k ≤ 20) ∨ (24 ≤ k ∧ k ≤ 26) ∨ (28 ≤ k ∧ k ≤ 29))) → ¬ (a = 93 ∧ 480 * t ≤ k ∧ k < 480 * t + 480) → ¬ (a = 94 ∧ 3 * t ≤ k ∧ k < 3 * t + 3) → a ≠ 97 → a ≠ 98 → ν a k = μ a k
theorem fT.rf (t : Nat) (μ : Mem) : fT t μ μ := fun _ _ _ _ _ _ _ => rfl
theorem fT.r {t p : Nat} {μ ν ξ : Mem} (hp : p < 3) (h1 : fT t μ ν) (h2 : fR (3 * t + p) ν ξ) : fT t μ ξ := fun a k e1 e2 e3 e4 e5 => (h2 a k e1 (by omega) (by omega) e4 e5).trans (h1 a k e1 e2 e3 e4 e5)
theorem fT.f4 {t : Nat} {μ ν ξ : Mem} (h1 : fT t μ ν) (h2 : fr4 ν ξ) : fT t μ ξ := fun a k e1 e2 e3 e4 e5 => (h2 a k (by omega)).trans (h1 a k e1 e2 e3 e4 e5)
theorem BS.fT {f : Nat → Int32} {n t : Nat} {μ ν : Mem} (h : BS f n μ) (hf : fT t μ ν) : BS f n ν := by
  obtain ⟨h1, h2, h3, h4, h5⟩ := h
  have r : ∀ a, a ≠ 82 → a ≠ 93 → a ≠ 94 → a ≠ 97 → a ≠ 98 → ν a = μ a := fun a a1 a2 a3 a4 a5 => funext fun k => hf a k (by omega) (by omega) (by omega) a4 a5
  exact ⟨h1, (hf 82 12 (by omega) (by omega) (by omega) (by omega) (by omega)).trans h2, (r 92 (by omega) (by omega) (by omega) (by omega) (by omega)).trans h3, h4.eq (r 95 (by omega) (by omega) (by omega) (by omega) (by omega)) (r 96 (by omega) (by omega) (by omega) (by omega) (by omega)), h5⟩
theorem vm_fT {α μ ν : Mem} (hf : WF α) (h : VM α μ) (hr : fT (aX α) μ ν) : VM α ν ∧ keepX μ ν := by
  have r : ∀ a, a ≠ 82 → a ≠ 93 → a ≠ 94 → a ≠ 97 → a ≠ 98 → ν a = μ a := fun a a1 a2 a3 a4 a5 => funext fun k => hr a k (by omega) (by omega) (by omega) a4 a5
  have n : ∀ a, (a ≠ 82 ∧ a ≠ 93 ∧ a ≠ 94 ∧ a ≠ 97 ∧ a ≠ 98) → ν a = μ a := fun a q => r a q.1 q.2.1 q.2.2.1 q.2.2.2.1 q.2.2.2.2
  have n0 : ∀ k, (k < 17 ∨ 29 < k ∨ k = 27) → ν 82 k = μ 82 k := fun k q => hr 82 k (by omega) (by omega) (by omega) (by omega) (by omega)
  have e : ∀ a : Nat, a < 100 → α a = α a := fun _ _ => rfl
  have e0 : ∀ k : Nat, k < 100 → α 0 k = α 0 k := fun _ _ => rfl
  obtain ⟨vc, vw, vr, vh, vt, vx, vi, vs, vk⟩ := h
  refine ⟨⟨?_, ?_, ?_, ?_, ?_, ?_, ?_, ?_, ?_⟩, fun a ha => n a (by omega)⟩
  · exact vc.eq (fun k _ => e0 k (by omega)) (fun k _ => n0 k (by omega))
  · exact vw.eq (e 1 (by omega)) (n 83 (by omega))
  · exact vr.eq (e0 1 (by omega)) (e 2 (by omega)) (e 3 (by omega)) (n 84 (by omega)) (n 85 (by omega))
  · exact vh.eq (e0 0 (by omega)) (fun f _ => e (4 + f) (by omega)) (fun f _ => n (86 + f) (by omega))
  · exact vt.eq (e0 4 (by omega)) (e 10 (by omega)) (n 92 (by omega))
  · intro t ht p hp
    obtain ⟨x1, x2⟩ := vx t ht p hp
    obtain ⟨m, hm, em, -⟩ := hf.2.2.2.2.2.1 t ht p hp
    refine ⟨(hr 94 _ (by omega) (by omega) (by omega) (by omega) (by omega)).trans x1, fun k hk => ?_⟩
    have hk' := hk
    rw [em, ix_nI (by omega)] at hk'
    exact (hr 93 _ (by omega) (by omega) (by omega) (by omega) (by omega)).trans (x2 k hk)
  · exact vi.eq (e 11 (by omega)) (e 12 (by omega)) (e 13 (by omega)) (fun k _ => n0 k (by omega)) (n 107 (by omega)) (n 108 (by omega))
  · exact vs.eq (e 14 (by omega)) (e 15 (by omega)) (e 16 (by omega)) (n 109 (by omega)) (n 110 (by omega)) (n 111 (by omega))
  · exact vk.eq (n 95 (by omega)) (n 96 (by omega))
theorem rdPart_dead {tk nv : Nat → Int32} {p q : Nat} (hp : p < 3) {r : RD1} (h : rdPart tk nv p (false, q) = some r) : r.1 = (false, q) := by
  obtain ⟨r1, h1, h2⟩ := bind_some' h
  cases h2
  have e : exS tk (false, q) (nI p) = (false, q) := by
    unfold exS
    rw [tkS_f, if_neg (fun z => (wd_no hp).1 z.symm)]
  rw [e] at h1
  show exS tk r1.1 14 = (false, q)
  rw [rd_dead _ _ _ _ _ h1]
  unfold exS
  rw [tkS_f, if_neg (by decide)]
def raR (α μ ν : Mem) : Prop := VM α ν ∧ keepX μ ν ∧ ((rdT α).1.1 = true → ∀ p, p < 3 → ν 94 (3 * aX α + p) = nI (prC (rdT α) p).length ∧ ∀ k, k < (prC (rdT α) p).length → ν 93 (160 * (3 * aX α + p) + k) = codeK ((prC (rdT α) p).getD k 0))
theorem sg_X8_readAll_0 {G : GW} {K : Option Value → Mem → Prop} {μ : Mem} {x1 : Int32}  (h : Ev2 G mX8_readAll 5 7 [(0, .ref 82), (1, .int x1), (2, .int 0)] [] (mset μ 82 17 0) K) : Ev2 G mX8_readAll 5 0 [(0, .ref 82), (1, .int x1)] [] μ K := by
  refine ev_aload_n dX8_readAll_0 0 rfl (by decide) ?_
  refine ev_iconst (v := 0) dX8_readAll_1 rfl ?_
  refine ev_putI fl_8_85 ⟨rfl, rfl, rfl⟩ (fun r hr => by cases hr; rfl) kd_82 dX8_readAll_2 ?_
  refine ev_iconst (v := 0) dX8_readAll_5 rfl ?_
  refine ev_istore_n (lv' := [(0, .ref 82), (1, .int x1), (2, .int 0)]) dX8_readAll_6 (by decide) [1, 2, 0] rfl ?_
  exact h
theorem sg_X8_readAll_7 {G : GW} {K : Option Value → Mem → Prop} {μ : Mem} {x1 x2 : Int32}  (h : ((3 ≤ x2) → (nxP μ) ∧ ∀ μ6 : Mem, (nxR μ μ6) → ((¬ (μ6 82 18) = 5) → K (some (.int (μ6 82 20))) μ6) ∧ (((μ6 82 18) = 5) → K (some (.int (-1))) μ6)) ∧ ((¬ (3 ≤ x2)) → (nxP μ) ∧ ∀ μ14 : Mem, (nxR μ μ14) → (((isKyM μ14 x2) = true) → (nxP μ14) ∧ ∀ μ22 : Mem, (nxR μ14 μ22) → Ev2 G mX8_readAll 5 33 [(0, .ref 82), (1, .int x1), (2, .int x2)] [] μ22 K) ∧ (((isKyM μ14 x2) = false) → K (some (.int (μ14 82 20))) μ14))) : Ev2 G mX8_readAll 5 7 [(0, .ref 82), (1, .int x1), (2, .int x2)] [] μ K := by
  refine ev_iload_n dX8_readAll_7 2 rfl ?_
  refine ev_iconst (v := 3) dX8_readAll_8 rfl ?_
  refine ev_icmp_ge (tgt := 56) dX8_readAll_9 rfl (fun c1 => ?_) (fun c1 => ?_)
  · have h2 := h.1 c1
    refine ev_aload_n dX8_readAll_56 0 rfl (by decide) ?_
    have p4 := h2.1
    have h5 := h2.2
    refine e2_callVrv (Rl := fun μ6 => nxR μ μ6) (a := 82) (as := []) (st := []) ok_X8_next vi_X8_next ml_8_175 hcl_8 kd_82 dX8_readAll_57 rfl rfl (Nat.le_of_ble_eq_true rfl) (Nat.le_of_ble_eq_true rfl) (by decide) (ct_X8_next μ p4) (fun μ6 r7 => ?_)
    have h8 := h5 μ6 r7
    refine ev_aload_n dX8_readAll_60 0 rfl (by decide) ?_
    refine ev_getI' (v := (μ6 82 18)) fl_8_91 rfl kd_82 rfl dX8_readAll_61 ?_
    refine ev_iconst (v := 5) dX8_readAll_64 rfl ?_
    refine ev_icmp_ne (tgt := 72) dX8_readAll_65 rfl (fun c9 => ?_) (fun c9 => ?_)
    · have h10 := h8.1 c9
      refine ev_aload_n dX8_readAll_72 0 rfl (by decide) ?_
      refine ev_getI' (v := (μ6 82 20)) fl_8_97 rfl kd_82 rfl dX8_readAll_73 ?_
      exact ev_ireturn dX8_readAll_76 rfl True.intro rfl rfl ⟨rfl, h10⟩
    · have h11 := h8.2 c9
      refine ev_iconst (v := (-1)) dX8_readAll_68 rfl ?_
      refine ev_goto (tgt := 76) dX8_readAll_69 rfl ?_
      exact ev_ireturn dX8_readAll_76 rfl True.intro rfl rfl ⟨rfl, h11⟩
  · have h3 := h.2 c1
    refine ev_aload_n dX8_readAll_12 0 rfl (by decide) ?_
    have p12 := h3.1
    have h13 := h3.2
    refine e2_callVrv (Rl := fun μ14 => nxR μ μ14) (a := 82) (as := []) (st := []) ok_X8_next vi_X8_next ml_8_175 hcl_8 kd_82 dX8_readAll_13 rfl rfl (Nat.le_of_ble_eq_true rfl) (Nat.le_of_ble_eq_true rfl) (by decide) (ct_X8_next μ p12) (fun μ14 r15 => ?_)
    have h16 := h13 μ14 r15
    refine ev_aload_n dX8_readAll_16 0 rfl (by decide) ?_
    refine ev_iload_n dX8_readAll_17 2 rfl ?_
    refine e2_callV (w := .int (bi (isKyM μ14 x2))) (μ1 := μ14) (a := 82) (as := [.int x2]) (st := []) ok_X8_isKey vi_X8_isKey ml_8_145 hcl_8 kd_82 dX8_readAll_18 rfl rfl (Nat.le_of_ble_eq_true rfl) (Nat.le_of_ble_eq_true rfl) (by decide) (ct_X8_isKey (x2) μ14) ?_
    refine ev_ifne_bi (tgt := 29) dX8_readAll_21 rfl (fun c17 => ?_) (fun c17 => ?_)
    · have h18 := h16.1 c17
      refine ev_aload_n dX8_readAll_29 0 rfl (by decide) ?_
      have p20 := h18.1
      have h21 := h18.2
      refine e2_callVrv (Rl := fun μ22 => nxR μ14 μ22) (a := 82) (as := []) (st := []) ok_X8_next vi_X8_next ml_8_175 hcl_8 kd_82 dX8_readAll_30 rfl rfl (Nat.le_of_ble_eq_true rfl) (Nat.le_of_ble_eq_true rfl) (by decide) (ct_X8_next μ14 p20) (fun μ22 r23 => ?_)
      have h24 := h21 μ22 r23
      exact h24
    · have h19 := h16.2 c17
      refine ev_aload_n dX8_readAll_24 0 rfl (by decide) ?_
      refine ev_getI' (v := (μ14 82 20)) fl_8_97 rfl kd_82 rfl dX8_readAll_25 ?_
      exact ev_ireturn dX8_readAll_28 rfl True.intro rfl rfl ⟨rfl, h19⟩
theorem sg_X8_readAll_33 {G : GW} {K : Option Value → Mem → Prop} {μ : Mem} {f : Nat → Int32} {n i : Nat} {R : Bool × Nat × List Int32} (hR : EN (tkT f n) (nvT f n) i [] [] [false] true true R) {x1 x2 : Int32}  (h : (rePr f n i μ ((3 * x1) + x2)) ∧ ∀ (z3 : Int32) (μ4 : Mem), (reL f n ((3 * x1) + x2).toNatClampNeg R μ z3 μ4) → ((¬ z3 = 0) → Ev2 G mX8_readAll 5 7 [(0, .ref 82), (1, .int x1), (2, .int (x2 + 1))] [] μ4 K) ∧ ((z3 = 0) → K (some (.int (μ4 82 20))) μ4)) : Ev2 G mX8_readAll 5 33 [(0, .ref 82), (1, .int x1), (2, .int x2)] [] μ K := by
  refine ev_aload_n dX8_readAll_33 0 rfl (by decide) ?_
  refine ev_iconst (v := 3) dX8_readAll_34 rfl ?_
  refine ev_iload_n dX8_readAll_35 1 rfl ?_
  refine ev_imul dX8_readAll_36 ?_
  refine ev_iload_n dX8_readAll_37 2 rfl ?_
  refine ev_iadd dX8_readAll_38 ?_
  have p1 := h.1
  have h2 := h.2
  refine e2_callVr (Rl := fun z3 μ4 => reL f n ((3 * x1) + x2).toNatClampNeg R μ z3 μ4) (a := 82) (as := [.int ((3 * x1) + x2)]) (st := []) ok_X8_readE vi_X8_readE ml_8_178 hcl_8 kd_82 dX8_readAll_39 rfl rfl (Nat.le_of_ble_eq_true rfl) (Nat.le_of_ble_eq_true rfl) (by decide) (ct_X8_readE hR (((3 * x1) + x2)) μ p1) (fun z3 μ4 r5 => ?_)
  have h6 := h2 z3 μ4 r5
  refine ev_if_ne (tgt := 50) dX8_readAll_42 rfl (fun c7 => ?_) (fun c7 => ?_)
  · have h8 := h6.1 c7
    refine ev_iinc (v := (x2 + 1)) (lv' := [(0, .ref 82), (1, .int x1), (2, .int (x2 + 1))]) dX8_readAll_50 2 rfl rfl (by decide) [1, 2, 0] rfl ?_
    refine ev_goto (tgt := 7) dX8_readAll_53 rfl ?_
    exact h8
  · have h9 := h6.2 c7
    refine ev_aload_n dX8_readAll_45 0 rfl (by decide) ?_
    refine ev_getI' (v := (μ4 82 20)) fl_8_97 rfl kd_82 rfl dX8_readAll_46 ?_
    exact ev_ireturn dX8_readAll_49 rfl True.intro rfl rfl ⟨rfl, h9⟩
theorem tok_5 {k : Int32} (h : tkR k) : tokT k = 5 ↔ k = 21 := by
  obtain ⟨j, hj, rfl⟩ := h
  have : ∀ j, j < 23 → (tokT (nI j) = 5 ↔ nI j = 21) := by decide
  exact this j hj
theorem lp_X8_part {G : GW} {K : Option Value → Mem → Prop} {f : Nat → Int32} {n t p i : Nat} {ν : Mem} {r : RD1} (ht : t < 6) (hp : p < 3) (hB : BS f n ν) (h17 : ν 82 17 = nI (plT f n i)) (hi : i ≤ plT f n i) (hr : rdPart (tkT f n) (nvT f n) p (true, i) = some r)
    (yes : r.1.1 = true → ∀ ξ, fR (3 * t + p) ν ξ → ξ 82 17 = nI (plT f n r.1.2) → r.1.2 ≤ plT f n r.1.2 → ξ 94 (3 * t + p) = nI r.2.length → (∀ k, k < r.2.length → ξ 93 (160 * (3 * t + p) + k) = codeK (r.2.getD k 0)) → Ev2 G mX8_readAll 5 7 [(0, .ref 82), (1, .int (nI t)), (2, .int (nI p + 1))] [] ξ K)
    (no : r.1.1 = false → ∀ ξ, fR (3 * t + p) ν ξ → K (some (.int (nI (stT f n r.1.2)))) ξ) : Ev2 G mX8_readAll 5 7 [(0, .ref 82), (1, .int (nI t)), (2, .int (nI p))] [] ν K := by
  have hinv := fun ha => rdPart_inv hp hr ha
  obtain ⟨r1, h1, h2⟩ := bind_some' hr
  cases h2
  refine sg_X8_readAll_7 ⟨fun c => absurd c (nI_ge (b := 3) hp (by omega)), fun _ => ⟨hB.nx h17, fun ν1 hν1 => ?_⟩⟩
  obtain ⟨g1, g2⟩ := hB.tk h17 hν1
  have hB1 := hB.fr ((fR.rf (3 * t + p) ν).f4 g1)
  have hsg := sg_is (tkT_R f n i) g2.2.2
  have hky : isKyM ν1 (nI p) = decide (tkT f n i = nI p) := hsg.2 p (by omega)
  rw [hky]
  refine ⟨fun c => ⟨hB1.nx g2.1, fun ν2 hν2 => ?_⟩, fun c => ?_⟩
  · have c := of_decide_eq_true c
    obtain ⟨g3, g4⟩ := hB1.tk g2.1 hν2
    have hB2 := hB1.fr ((fR.rf (3 * t + p) ν1).f4 g3)
    have f2 : fR (3 * t + p) ν ν2 := ((fR.rf (3 * t + p) ν).f4 g1).f4 g3
    have e1 : exS (tkT f n) (true, i) (nI p) = (true, i + 1) := by
      unfold exS
      rw [tkS_t, if_pos c]
    rw [e1] at h1
    obtain ⟨C, hEN, hC1, hC2⟩ := sy_part h1
    have hi1 : i + 1 ≤ plT f n (i + 1) := by
      have := (tkT_lt (f := f) (n := n) (i := i) (by rw [c]; exact (wd_no hp).2)).2
      omega
    have er : 3 * nI t + nI p = nI (3 * t + p) := by
      rw [show (3 : Int32) = nI 3 from rfl, pk_mul, nI_add]
    refine sg_X8_readAll_33 hEN ?_
    rw [er, ix_nI (by omega)]
    refine ⟨⟨3 * t + p, by omega, rfl, hB2, g4, hi1⟩, fun z ξ hz => ?_⟩
    obtain ⟨ez, f3, y1, y2⟩ := hz
    have fz : fR (3 * t + p) ν ξ := fun a k e1 e2 e3 e4 e5 => (f3 a k e1 e2 e3 e4 e5).trans (f2 a k e1 e2 e3 e4 e5)
    cases hb : (exS (tkT f n) r1.1 14).1 with
    | true =>
      rw [hb] at ez y1
      have ea := (exS_alive (by decide) hb).2.2
      refine ⟨fun _ => ?_, fun q => by rw [ez] at q; exact absurd q (by decide)⟩
      obtain ⟨k1, k2, k3⟩ := y1 rfl
      rw [hC1 hb] at k1 k2
      have hv := (hinv hb).2.2.1 hi
      refine yes hb ξ fz ?_ hv.1 k1 k2
      show ξ 82 17 = nI (plT f n (exS (tkT f n) r1.1 14).2)
      rw [ea]
      exact k3
    | false =>
      rw [hb] at ez y2
      refine ⟨fun q => absurd (by rw [ez]; rfl) q, fun _ => ?_⟩
      have := no hb ξ fz
      rw [y2 rfl]
      have e2 : (exS (tkT f n) r1.1 14).2 = r1.1.2 := hC2 hb
      rw [e2] at this
      exact this
  · have c := of_decide_eq_false c
    have e1 : exS (tkT f n) (true, i) (nI p) = (false, i) := by
      unfold exS
      rw [tkS_t, if_neg c]
    rw [e1] at h1
    have e3 := rd_dead _ _ _ _ _ h1
    have e4 : exS (tkT f n) r1.1 14 = (false, i) := by
      rw [e3]
      unfold exS
      rw [tkS_f, if_neg (by decide)]
    have := no (by show (exS (tkT f n) r1.1 14).1 = false; rw [e4]) ν1 ((fR.rf (3 * t + p) ν).f4 g1)
    rw [g2.2.1]
    have e5 : (exS (tkT f n) r1.1 14).2 = i := by rw [e4]
    rw [e5] at this
    exact this
theorem fR.keep {row row' : Nat} {μ ν : Mem} (h : fR row μ ν) (hne : row' ≠ row) : ν 94 row' = μ 94 row' ∧ ∀ k, k < 160 → ν 93 (160 * row' + k) = μ 93 (160 * row' + k) := ⟨h 94 row' (by omega) (by omega) (by omega) (by omega) (by omega), fun k hk => h 93 _ (by omega) (by omega) (by omega) (by omega) (by omega)⟩
theorem ct_X8_readAll {G : GW} {α : Mem} (hf : WF α) (x1 : Int32) (μ : Mem) (hp : VM α μ ∧ x1 = nI (aX α) ∧ aX α < 6) : Ev2 G mX8_readAll 5 0 [(0, .ref 82), (1, .int x1)] [] μ (fun v μ' => ∃ x, v = some (.int x) ∧ (x = (if (rdT α).1.1 = true then -1 else nI (stT (α 10) (aT α) (rdT α).1.2)) ∧ raR α μ μ')) := by
  obtain ⟨h, rfl, hx⟩ := hp
  obtain ⟨wT, hT⟩ := hf.1.2.2.2.2
  have hvt : ∀ k, k < aT α → μ 92 k = α 10 k := h.2.2.2.2.1
  have hall := rdT_some hf.1
  rw [← tkT_cg hvt, ← nvT_cg hvt] at hall
  obtain ⟨r0, r1, r2, e0, e1, e2, er⟩ := rdAll_some hall
  have hB : BS (μ 92) (aT α) μ := ⟨hT, h.1.2.2.2.2.trans wT, rfl, h.2.2.2.2.2.2.2.2, fun k hk => by
    obtain ⟨b, hb, eb⟩ := hf.2.2.2.2.1 k hk
    exact ⟨b, hb, (hvt k hk).trans eb⟩⟩
  have hB0 : BS (μ 92) (aT α) (mset μ 82 17 0) := hB.fr ((fR.rf 0 μ).f4 (fr4.set (by omega) (by omega)))
  have f0 : fT (aX α) μ (mset μ 82 17 0) := (fT.rf _ μ).f4 (fr4.set (by omega) (by omega))
  have eal : (rdT α).1 = exS (tkT (μ 92) (aT α)) r2.1 21 := by rw [er]
  have est : stT (α 10) (aT α) (rdT α).1.2 = stT (μ 92) (aT α) (rdT α).1.2 := (stT_cg hvt _).symm
  have dead : ∀ q ξ, r2.1 = (false, q) → fT (aX α) μ ξ → ∃ x, some (Value.int (nI (stT (μ 92) (aT α) q))) = some (.int x) ∧ (x = (if (rdT α).1.1 = true then -1 else nI (stT (α 10) (aT α) (rdT α).1.2)) ∧ raR α μ ξ) := by
    intro q ξ hq hfξ
    have ee : (rdT α).1 = (false, q) := by
      rw [eal, hq]
      unfold exS
      rw [tkS_f, if_neg (by decide)]
    obtain ⟨v1, v2⟩ := vm_fT hf h hfξ
    refine ⟨_, rfl, ?_, v1, v2, fun z => ?_⟩
    · rw [est, ee, if_neg (show ¬ (false = true) by decide)]
    · rw [ee] at z
      cases z
  have z1 : (0 : Int32) = nI 0 := rfl
  refine sg_X8_readAll_0 ?_
  rw [z1]
  refine lp_X8_part hx (p := 0) (i := 0) (by omega) hB0 mset_same (Nat.zero_le _) e0 (fun a0 ξ0 g0 s0 l0 c0 d0 => ?_) (fun a0 ξ0 g0 => ?_)
  · have er0 : r0.1 = (true, r0.1.2) := by rw [← a0]
    rw [er0] at e1
    have f1 := f0.r (p := 0) (by omega) g0
    rw [nI_1]
    refine lp_X8_part hx (p := 1) (i := r0.1.2) (by omega) (hB.fT f1) s0 l0 e1 (fun a1 ξ1 g1 s1 l1 c1 d1 => ?_) (fun a1 ξ1 g1 => ?_)
    · have er1 : r1.1 = (true, r1.1.2) := by rw [← a1]
      rw [er1] at e2
      have f2 := f1.r (p := 1) (by omega) g1
      rw [nI_1]
      refine lp_X8_part hx (p := 2) (i := r1.1.2) (by omega) (hB.fT f2) s1 l1 e2 (fun a2 ξ2 g2 s2 l2 c2 d2 => ?_) (fun a2 ξ2 g2 => ?_)
      · have er2 : r2.1 = (true, r2.1.2) := by rw [← a2]
        have f3 := f2.r (p := 2) (by omega) g2
        have hB3 := hB.fT f3
        rw [nI_1]
        refine sg_X8_readAll_7 ⟨fun _ => ⟨hB3.nx s2, fun ξ hξ => ?_⟩, fun c => absurd (nI_le (a := 3) (Nat.le_refl _) (by omega)) c⟩
        obtain ⟨q1, q2⟩ := hB3.tk s2 hξ
        have f4 := f3.f4 q1
        have t5 := tok_5 (tkT_R (μ 92) (aT α) r2.1.2)
        rw [q2.2.2.1, t5, q2.2.1]
        refine ⟨fun c => ?_, fun c => ?_⟩
        · have ee : (rdT α).1 = (false, r2.1.2) := by
            rw [eal, er2]
            unfold exS
            rw [tkS_t, if_neg c]
          obtain ⟨v1, v2⟩ := vm_fT hf h f4
          refine ⟨_, rfl, ?_, v1, v2, fun z => ?_⟩
          · rw [est, ee, if_neg (show ¬ (false = true) by decide)]
          · rw [ee] at z
            cases z
        · have ee : (rdT α).1 = (true, r2.1.2 + 1) := by
            rw [eal, er2]
            unfold exS
            rw [tkS_t, if_pos c]
          obtain ⟨v1, v2⟩ := vm_fT hf h f4
          refine ⟨_, rfl, ?_, v1, v2, fun z p hp => ?_⟩
          · rw [ee, if_pos rfl]
          · have hlen := fun p hp => ((rdAll_inv hT hall (by rw [ee])).2 p hp).2.2.2
            have w94 : ∀ k, ξ 94 k = ξ2 94 k := fun k => q1 94 k (by omega)
            have w93 : ∀ k, ξ 93 k = ξ2 93 k := fun k => q1 93 k (by omega)
            rcases (show p = 0 ∨ p = 1 ∨ p = 2 by omega) with rfl | rfl | rfl
            · have hl := hlen 0 (by omega)
              have ep : prC (rdT α) 0 = r0.2 := by rw [er]; rfl
              rw [ep] at hl ⊢
              obtain ⟨k1, k2⟩ := fR.keep g1 (row' := 3 * aX α + 0) (by omega)
              obtain ⟨k3, k4⟩ := fR.keep g2 (row' := 3 * aX α + 0) (by omega)
              exact ⟨by rw [w94, k3, k1]; exact c0, fun k hk => by rw [w93, k4 k (by omega), k2 k (by omega)]; exact d0 k hk⟩
            · have hl := hlen 1 (by omega)
              have ep : prC (rdT α) 1 = r1.2 := by rw [er]; rfl
              rw [ep] at hl ⊢
              obtain ⟨k3, k4⟩ := fR.keep g2 (row' := 3 * aX α + 1) (by omega)
              exact ⟨by rw [w94, k3]; exact c1, fun k hk => by rw [w93, k4 k (by omega)]; exact d1 k hk⟩
            · have ep : prC (rdT α) 2 = r2.2 := by rw [er]; rfl
              rw [ep]
              exact ⟨by rw [w94]; exact c2, fun k hk => by rw [w93]; exact d2 k hk⟩
      · have er2 : r2.1 = (false, r2.1.2) := by rw [← a2]
        exact dead r2.1.2 ξ2 er2 (f2.r (p := 2) (by omega) g2)
    · have er1 : r1.1 = (false, r1.1.2) := by rw [← a1]
      rw [er1] at e2
      exact dead r1.1.2 ξ1 (rdPart_dead (by omega) e2) (f1.r (p := 1) (by omega) g1)
  · have er0 : r0.1 = (false, r0.1.2) := by rw [← a0]
    rw [er0] at e1
    have e1' := rdPart_dead (by omega) e1
    rw [e1'] at e2
    exact dead r0.1.2 ξ0 (rdPart_dead (by omega) e2) (f0.r (p := 0) (by omega) g0)
theorem sg_X8_text_0 {G : GW} {K : Option Value → Mem → Prop} {μ : Mem} {α : Mem} (hf : WF α)   (h : ((¬ (μ 82 13) = 6) → (VM α μ ∧ (μ 82 13) = nI (aX α) ∧ aX α < 6) ∧ ∀ (z6 : Int32) (μ7 : Mem), (z6 = (if (rdT α).1.1 = true then -1 else nI (stT (α 10) (aT α) (rdT α).1.2)) ∧ raR α μ μ7) → ((z6 = (-1)) → K (some (.int (((μ7 82 13) + 1) - 1))) (mset (mset μ7 82 12 0) 82 13 ((μ7 82 13) + 1))) ∧ ((¬ (z6 = (-1))) → K (some (.int ((-100) - z6))) (mset μ7 82 12 0))) ∧ (((μ 82 13) = 6) → K (some (.int (-4))) μ)) : Ev2 G mX8_text 6 0 [(0, .ref 82)] [] μ K := by
  refine ev_aload_n dX8_text_0 0 rfl (by decide) ?_
  refine ev_getI' (v := (μ 82 13)) fl_8_181 rfl kd_82 rfl dX8_text_1 ?_
  refine ev_bipush (v := 6) dX8_text_4 rfl ?_
  refine ev_icmp_ne (tgt := 12) dX8_text_6 rfl (fun c1 => ?_) (fun c1 => ?_)
  · have h2 := h.1 c1
    refine ev_aload_n dX8_text_12 0 rfl (by decide) ?_
    refine ev_aload_n dX8_text_13 0 rfl (by decide) ?_
    refine ev_getI' (v := (μ 82 13)) fl_8_181 rfl kd_82 rfl dX8_text_14 ?_
    have p4 := h2.1
    have h5 := h2.2
    refine e2_callVr (Rl := fun z6 μ7 => z6 = (if (rdT α).1.1 = true then -1 else nI (stT (α 10) (aT α) (rdT α).1.2)) ∧ raR α μ μ7) (a := 82) (as := [.int (μ 82 13)]) (st := []) ok_X8_readAll vi_X8_readAll ml_8_184 hcl_8 kd_82 dX8_text_17 rfl rfl (Nat.le_of_ble_eq_true rfl) (Nat.le_of_ble_eq_true rfl) (by decide) (ct_X8_readAll hf ((μ 82 13)) μ p4) (fun z6 μ7 r8 => ?_)
    have h9 := h5 z6 μ7 r8
    refine ev_istore_n (lv' := [(0, .ref 82), (1, .int z6)]) dX8_text_20 (by decide) [1, 0] rfl ?_
    refine ev_aload_n dX8_text_21 0 rfl (by decide) ?_
    refine ev_iconst (v := 0) dX8_text_22 rfl ?_
    refine ev_putI fl_8_79 ⟨rfl, rfl, rfl⟩ (fun r hr => by cases hr; rfl) kd_82 dX8_text_23 ?_
    refine ev_iload_n dX8_text_26 1 rfl ?_
    refine ev_iconst (v := (-1)) dX8_text_27 rfl ?_
    refine ev_icmp_eq (tgt := 36) dX8_text_28 rfl (fun c10 => ?_) (fun c10 => ?_)
    · have h11 := h9.1 c10
      refine ev_aload_n dX8_text_36 0 rfl (by decide) ?_
      refine ev_dup dX8_text_37 rfl ?_
      refine ev_getI' (v := (μ7 82 13)) fl_8_181 rfl kd_82 rfl dX8_text_38 ?_
      refine ev_iconst (v := 1) dX8_text_41 rfl ?_
      refine ev_iadd dX8_text_42 ?_
      refine ev_putI fl_8_181 ⟨rfl, rfl, rfl⟩ (fun r hr => by cases hr; rfl) kd_82 dX8_text_43 ?_
      refine ev_aload_n dX8_text_46 0 rfl (by decide) ?_
      refine ev_getI' (v := ((μ7 82 13) + 1)) fl_8_181 rfl kd_82 rfl dX8_text_47 ?_
      refine ev_iconst (v := 1) dX8_text_50 rfl ?_
      refine ev_isub dX8_text_51 ?_
      exact ev_ireturn dX8_text_52 rfl True.intro rfl rfl ⟨rfl, h11⟩
    · have h12 := h9.2 c10
      refine ev_bipush (v := (-100)) dX8_text_31 rfl ?_
      refine ev_iload_n dX8_text_33 1 rfl ?_
      refine ev_isub dX8_text_34 ?_
      exact ev_ireturn dX8_text_35 rfl True.intro rfl rfl ⟨rfl, h12⟩
  · have h3 := h.2 c1
    refine ev_bipush (v := (-4)) dX8_text_9 rfl ?_
    exact ev_ireturn dX8_text_11 rfl True.intro rfl rfl ⟨rfl, h3⟩
theorem vm_clr {α ν : Mem} (h : VM α ν) : VM (clrA α) (mset ν 82 12 0) ∧ keepX ν (mset ν 82 12 0) := by
  obtain ⟨vc, vw, vr, vh, vt, vx, vi, vs, vk⟩ := h
  have e : ∀ r, r ≠ 0 → clrA α r = α r := fun r h => mset_ne h
  have e0 : ∀ k, k ≠ 4 → clrA α 0 k = α 0 k := fun k h => mset_other (by omega)
  have n : ∀ a, a ≠ 82 → mset ν 82 12 0 a = ν a := fun a h => mset_ne h
  have n0 : ∀ k, k ≠ 12 → mset ν 82 12 0 82 k = ν 82 k := fun k h => mset_other (by omega)
  refine ⟨⟨⟨?_, ?_, ?_, ?_, ?_⟩, ?_, ?_, ?_, ?_, ?_, ?_, ?_, ?_⟩, keepX.set (by omega)⟩
  · rw [n0 4 (by omega), e0 0 (by omega)]; exact vc.1
  · rw [n0 1 (by omega), e0 1 (by omega)]; exact vc.2.1
  · rw [n0 13 (by omega), e0 2 (by omega)]; exact vc.2.2.1
  · rw [n0 14 (by omega), e0 3 (by omega)]; exact vc.2.2.2.1
  · rw [mset_same]; exact mset_same.symm
  · exact vw.eq (e 1 (by omega)) (n 83 (by omega))
  · exact vr.eq (e0 1 (by omega)) (e 2 (by omega)) (e 3 (by omega)) (n 84 (by omega)) (n 85 (by omega))
  · exact vh.eq (e0 0 (by omega)) (fun f _ => e (4 + f) (by omega)) (fun f _ => n (86 + f) (by omega))
  · intro i hi
    have e4 : clrA α 0 4 = 0 := mset_same
    have : aT (clrA α) = 0 := by unfold aT; rw [e4]; rfl
    omega
  · exact vx.eq (e0 2 (by omega)) (e 17 (by omega)) (e 18 (by omega)) (n 93 (by omega)) (n 94 (by omega))
  · exact vi.eq (e 11 (by omega)) (e 12 (by omega)) (e 13 (by omega)) (fun k _ => n0 k (by omega)) (n 107 (by omega)) (n 108 (by omega))
  · exact vs.eq (e 14 (by omega)) (e 15 (by omega)) (e 16 (by omega)) (n 109 (by omega)) (n 110 (by omega)) (n 111 (by omega))
  · exact vk.eq (n 95 (by omega)) (n 96 (by omega))
theorem vm_txt {α ν : Mem} {r : RDR} (hf : WF α) (h : VM α ν) (hx : aX α < 6) (hl : ∀ p, p < 3 → (prC r p).length ≤ 160) (hp : ∀ p, p < 3 → ν 94 (3 * aX α + p) = nI (prC r p).length ∧ ∀ k, k < (prC r p).length → ν 93 (160 * (3 * aX α + p) + k) = codeK ((prC r p).getD k 0)) : VM (txtA α r) (mset (mset ν 82 12 0) 82 13 (nI (aX α + 1))) ∧ keepX ν (mset (mset ν 82 12 0) 82 13 (nI (aX α + 1))) := by
  obtain ⟨vc, vw, vr, vh, vt, vx, vi, vs, vk⟩ := h
  have e : ∀ a, a ≠ 0 ∧ a ≠ 17 ∧ a ≠ 18 → txtA α r a = α a := fun a h => txtA_row h
  have e0 : ∀ k, k ≠ 2 ∧ k ≠ 4 → txtA α r 0 k = α 0 k := fun k h => txtA_0 h.1 h.2
  have n : ∀ a, a ≠ 82 → mset (mset ν 82 12 0) 82 13 (nI (aX α + 1)) a = ν a := fun a h => by rw [mset_ne h, mset_ne h]
  have n0 : ∀ k, k ≠ 12 ∧ k ≠ 13 → mset (mset ν 82 12 0) 82 13 (nI (aX α + 1)) 82 k = ν 82 k := fun k h => by rw [mset_other (by omega), mset_other (by omega)]
  have e02 : txtA α r 0 2 = nI (aX α + 1) := rfl
  have e04 : txtA α r 0 4 = 0 := rfl
  have eX : aX (txtA α r) = aX α + 1 := by
    show (txtA α r 0 2).toNatClampNeg = aX α + 1
    rw [e02, ix_nI (by omega)]
  refine ⟨⟨⟨?_, ?_, ?_, ?_, ?_⟩, ?_, ?_, ?_, ?_, ?_, ?_, ?_, ?_⟩, fun a ha => n a (by omega)⟩
  · rw [n0 4 (by omega), e0 0 (by omega)]; exact vc.1
  · rw [n0 1 (by omega), e0 1 (by omega)]; exact vc.2.1
  · rw [mset_same, e02]
  · rw [n0 14 (by omega), e0 3 (by omega)]; exact vc.2.2.2.1
  · rw [mset_other (by omega), mset_same, e04]
  · exact vw.eq (e 1 (by omega)) (n 83 (by omega))
  · exact vr.eq (e0 1 (by omega)) (e 2 (by omega)) (e 3 (by omega)) (n 84 (by omega)) (n 85 (by omega))
  · exact vh.eq (e0 0 (by omega)) (fun f _ => e (4 + f) (by omega)) (fun f _ => n (86 + f) (by omega))
  · intro i hi
    have : aT (txtA α r) = 0 := by unfold aT; rw [e04]; rfl
    omega
  · intro t ht p hp3
    rw [eX] at ht
    unfold vMx1
    rw [n 93 (by omega), n 94 (by omega)]
    by_cases c : t = aX α
    · subst c
      rw [txtA_17 hp3, ix_nI (by have := hl p hp3; omega)]
      refine ⟨(hp p hp3).1, fun k hk => ?_⟩
      rw [txtA_18 hp3 (by have := hl p hp3; omega)]
      exact (hp p hp3).2 k hk
    · obtain ⟨x1, x2⟩ := vx t (by omega) p hp3
      obtain ⟨m, hm, em, -⟩ := hf.2.2.2.2.2.1 t (by omega) p hp3
      rw [txtA_17o (by omega) hp3]
      refine ⟨x1, fun k hk => ?_⟩
      have hk' := hk
      rw [em, ix_nI (by omega)] at hk'
      rw [txtA_18o (by omega) hp3 (by omega)]
      exact x2 k hk
  · exact vi.eq (e 11 (by omega)) (e 12 (by omega)) (e 13 (by omega)) (fun k _ => n0 k (by omega)) (n 107 (by omega)) (n 108 (by omega))
  · exact vs.eq (e 14 (by omega)) (e 15 (by omega)) (e 16 (by omega)) (n 109 (by omega)) (n 110 (by omega)) (n 111 (by omega))
  · exact vk.eq (n 95 (by omega)) (n 96 (by omega))
theorem pb_X8_text {G : GW} {α μ : Mem} (hf : WF α) (h : VM α μ) : pubM G mX8_text 6 [(0, .ref 82)] α μ (.int (sp_text α)) (sq_text α) := by
  have hk := keepX.rf μ
  have wX := hf.1.2.2.1.1
  have hX6 := hf.1.2.2.1.2
  have cX : μ 82 13 = nI (aX α) := h.1.2.2.1.trans wX
  refine sg_X8_text_0 hf ?_
  rw [cX]
  refine ⟨fun c => ?_, fun c => ?_⟩
  · have hx : aX α < 6 := by
      rcases Nat.lt_or_ge (aX α) 6 with q | q
      · exact q
      · exact absurd (show nI (aX α) = 6 by rw [show aX α = 6 by omega]; rfl) c
    have c6 : α 0 2 < 6 := by
      rw [wX]
      exact nI_lt (b := 6) hx (by omega)
    unfold sp_text sq_text
    rw [if_pos c6, if_pos c6]
    refine ⟨⟨h, rfl, hx⟩, fun z ν hz => ?_⟩
    obtain ⟨ez, v1, v2, v3⟩ := hz
    have e13 : ν 82 13 = nI (aX α) := v1.1.2.2.1.trans wX
    rw [e13, nI_1]
    by_cases ca : (rdT α).1.1 = true
    · rw [if_pos ca] at ez ⊢
      rw [if_pos ca]
      have hi := rdAll_inv hf.1.2.2.2.2.2 (rdT_some hf.1) ca
      obtain ⟨g1, g2⟩ := vm_txt hf v1 hx (fun p hp => (hi.2 p hp).2.2.2) (v3 ca)
      refine ⟨fun _ => ⟨?_, g1, v2.tr g2⟩, fun q => absurd ez q⟩
      rw [wX, nI_m1 (by omega)]
      rfl
    · rw [if_neg ca] at ez ⊢
      rw [if_neg ca]
      have hst := (stT_le (α 10) (aT α) (rdT α).1.2).2
      have hT := hf.1.2.2.2.2.2
      obtain ⟨g1, g2⟩ := vm_clr v1
      refine ⟨fun q => ?_, fun _ => ⟨by rw [ez], g1, v2.tr g2⟩⟩
      rw [ez] at q
      exact absurd q (nI_m (by omega))
  · have c6 : ¬ α 0 2 < 6 := by rw [wX, c]; decide
    unfold sp_text sq_text
    rw [if_neg c6, if_neg c6]
    exact ⟨rfl, h, hk⟩
