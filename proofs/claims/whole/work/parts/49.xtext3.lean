/-! ===== the class's text() over the abstract state ===== -/
abbrev RDR : Type := (Bool × Nat) × List Int32 × List Int32 × List Int32
def rdT (α : Mem) : RDR := (rdAll (tkT (α 10) (aT α)) (nvT (α 10) (aT α))).getD ((false, 0), [], [], [])
def prC (r : RDR) (p : Nat) : List Int32 := if p = 0 then r.2.1 else if p = 1 then r.2.2.1 else r.2.2.2
def clrA (α : Mem) : Mem := mset α 0 4 0
def txtA (α : Mem) (r : RDR) : Mem := fun a k =>
  if a = 0 then (if k = 2 then nI (aX α + 1) else if k = 4 then 0 else α 0 k)
  else if a = 17 then (if 3 * aX α ≤ k ∧ k < 3 * aX α + 3 then nI (prC r (k - 3 * aX α)).length else α 17 k)
  else if a = 18 then (if 480 * aX α ≤ k ∧ k < 480 * aX α + 480 then codeK ((prC r ((k - 480 * aX α) / 160)).getD ((k - 480 * aX α) % 160) 0) else α 18 k)
  else α a k
def sp_text (α : Mem) : Int32 := if α 0 2 < 6 then (if (rdT α).1.1 = true then α 0 2 else -100 - nI (stT (α 10) (aT α) (rdT α).1.2)) else -4
def sq_text (α : Mem) : Mem := if α 0 2 < 6 then (if (rdT α).1.1 = true then txtA α (rdT α) else clrA α) else α
theorem rdT_some {α : Mem} (hf : wfC α) : rdAll (tkT (α 10) (aT α)) (nvT (α 10) (aT α)) = some (rdT α) := by
  obtain ⟨r, h⟩ := rdAll_tot (f := α 10) hf.2.2.2.2.2
  unfold rdT
  rw [h]
  rfl
/-! what is read well -/
theorem rdPart_inv {f : Nat → Int32} {n p : Nat} {s : Bool × Nat} {r : (Bool × Nat) × List Int32} (hp : p < 3) (h : rdPart (tkT f n) (nvT f n) p s = some r) (ha : r.1.1 = true) : s.1 = true ∧ (∀ x, x ∈ r.2 → validS x) ∧ (s.2 ≤ plT f n s.2 → r.1.2 ≤ plT f n r.1.2 ∧ s.2 + r.2.length ≤ r.1.2) ∧ okL r.2 0 ∧ htL r.2 0 = 1 := by
  obtain ⟨r1, h1, h2⟩ := bind_some' h
  cases h2
  obtain ⟨x1, x2, x3⟩ := exS_alive (by decide) ha
  obtain ⟨w22, w21⟩ := wd_no hp
  obtain ⟨y1, y2⟩ := rd_on _ _ _ _ _ h1 x1
  obtain ⟨z1, z2, z3⟩ := exS_alive w22 y1
  obtain ⟨a1, a2, a3, -⟩ := rd_inv f n _ _ _ _ _ (by omega) h1 x1
  have n6 : ndT 6 0 = 31 := rfl
  refine ⟨z1, a1, fun hs => ?_, a3 (by omega) 0 (by omega)⟩
  have hs2 : (exS (tkT f n) s (nI p)).2 ≤ plT f n (exS (tkT f n) s (nI p)).2 := by
    rw [z3]
    exact take_le (by rw [z2]; exact w22) (by rw [z2]; exact w21) hs
  obtain ⟨b1, b2⟩ := a2 hs2
  have b3 := take_le (by rw [x2]; decide) (by rw [x2]; decide) b1
  rw [z3] at b2
  have b2 : s.2 + 1 + r1.2.length ≤ r1.1.2 := b2
  show (exS (tkT f n) r1.1 14).2 ≤ plT f n (exS (tkT f n) r1.1 14).2 ∧ s.2 + r1.2.length ≤ (exS (tkT f n) r1.1 14).2
  rw [x3]
  exact ⟨b3, by show s.2 + r1.2.length ≤ r1.1.2 + 1; omega⟩
theorem rdAll_inv {f : Nat → Int32} {n : Nat} {r : RDR} (hn : n ≤ 160) (h : rdAll (tkT f n) (nvT f n) = some r) (ha : r.1.1 = true) : r.2.1.length + r.2.2.1.length + r.2.2.2.length ≤ 160 ∧ ∀ p, p < 3 → (∀ x, x ∈ prC r p → validS x) ∧ okL (prC r p) 0 ∧ htL (prC r p) 0 = 1 ∧ (prC r p).length ≤ 160 := by
  obtain ⟨r0, r1, r2, p0, p1, p2, rfl⟩ := rdAll_some h
  obtain ⟨x1, -, -⟩ := exS_alive (by decide) ha
  obtain ⟨c1, c2, c3, c4⟩ := rdPart_inv (by omega) p2 x1
  obtain ⟨b1, b2, b3, b4⟩ := rdPart_inv (by omega) p1 c1
  obtain ⟨a1, a2, a3, a4⟩ := rdPart_inv (by omega) p0 b1
  obtain ⟨d1, d2⟩ := a3 (Nat.zero_le _)
  obtain ⟨e1, e2⟩ := b3 d1
  obtain ⟨g1, g2⟩ := c3 e1
  have hpl := plT_le f n r2.1.2
  have d2 : 0 + r0.2.length ≤ r0.1.2 := d2
  have hsum : r0.2.length + r1.2.length + r2.2.length ≤ 160 := by omega
  refine ⟨hsum, fun p hp => ?_⟩
  rcases (show p = 0 ∨ p = 1 ∨ p = 2 by omega) with rfl | rfl | rfl
  · exact ⟨a2, a4.1, a4.2, by show r0.2.length ≤ 160; omega⟩
  · exact ⟨b2, b4.1, b4.2, by show r1.2.length ≤ 160; omega⟩
  · exact ⟨c2, c4.1, c4.2, by show r2.2.length ≤ 160; omega⟩
theorem okL_at : ∀ (c : List Int32) (h k : Nat), okL c h → k < c.length → okE (codeK (c.getD k 0)) (htL (c.take k) h) := by
  intro c
  induction c with
  | nil => intro h k _ hk; exact absurd hk (Nat.not_lt_zero k)
  | cons x c ih =>
    intro h k ho hk
    cases k with
    | zero => exact ho.1
    | succ k => exact ih _ k ho.2 (by simp only [List.length_cons] at hk; omega)
theorem htL_take : ∀ (c : List Int32) (k : Nat), k < c.length → ∀ h, htL (c.take (k + 1)) h = hE (codeK (c.getD k 0)) (htL (c.take k) h) := by
  intro c
  induction c with
  | nil => intro k hk; exact absurd hk (Nat.not_lt_zero k)
  | cons x c ih =>
    intro k hk h
    cases k with
    | zero => rfl
    | succ k => exact ih k (by simp only [List.length_cons] at hk; omega) _
theorem wfE_of {c : List Int32} (h1 : okL c 0) (h2 : htL c 0 = 1) : wfE (fun k => codeK (c.getD k 0)) c.length := by
  have key : ∀ k, k ≤ c.length → htE (fun k => codeK (c.getD k 0)) k = htL (c.take k) 0 := by
    intro k
    induction k with
    | zero => intro _; rfl
    | succ k ih =>
      intro hk
      show hE (codeK (c.getD k 0)) (htE (fun k => codeK (c.getD k 0)) k) = _
      rw [ih (by omega), htL_take c k (by omega)]
  refine ⟨fun k hk => ?_, ?_⟩
  · rw [key k (by omega)]
    exact okL_at c 0 k h1 hk
  · rw [key _ (Nat.le_refl _), List.take_length]
    exact h2
theorem txtA_row {α : Mem} {r : RDR} {a : Nat} (h : a ≠ 0 ∧ a ≠ 17 ∧ a ≠ 18) : txtA α r a = α a := by
  funext k
  unfold txtA
  rw [if_neg h.1, if_neg h.2.1, if_neg h.2.2]
theorem txtA_0 {α : Mem} {r : RDR} {k : Nat} (h2 : k ≠ 2) (h4 : k ≠ 4) : txtA α r 0 k = α 0 k := by
  unfold txtA
  rw [if_pos rfl, if_neg h2, if_neg h4]
theorem txtA_17 {α : Mem} {r : RDR} {p : Nat} (hp : p < 3) : txtA α r 17 (3 * aX α + p) = nI (prC r p).length := by
  unfold txtA
  rw [if_neg (by omega), if_pos rfl, if_pos (by omega), Nat.add_sub_cancel_left]
theorem txtA_18 {α : Mem} {r : RDR} {p k : Nat} (hp : p < 3) (hk : k < 160) : txtA α r 18 (160 * (3 * aX α + p) + k) = codeK ((prC r p).getD k 0) := by
  unfold txtA
  rw [if_neg (by omega), if_neg (by omega), if_pos rfl, if_pos (by omega)]
  have e : 160 * (3 * aX α + p) + k - 480 * aX α = 160 * p + k := by omega
  rw [e, show (160 * p + k) / 160 = p by omega, show (160 * p + k) % 160 = k by omega]
theorem txtA_17o {α : Mem} {r : RDR} {t p : Nat} (ht : t < aX α) (hp : p < 3) : txtA α r 17 (3 * t + p) = α 17 (3 * t + p) := by
  unfold txtA
  rw [if_neg (by omega), if_pos rfl, if_neg (by omega)]
theorem txtA_18o {α : Mem} {r : RDR} {t p k : Nat} (ht : t < aX α) (hp : p < 3) (hk : k < 160) : txtA α r 18 (160 * (3 * t + p) + k) = α 18 (160 * (3 * t + p) + k) := by
  unfold txtA
  rw [if_neg (by omega), if_neg (by omega), if_pos rfl, if_neg (by omega)]
theorem wf_clr {α : Mem} (hf : WF α) : WF (clrA α) := by
  obtain ⟨wc, ww, wr, wh, wt, wx, wi, ws⟩ := hf
  have e : ∀ r, r ≠ 0 → clrA α r = α r := fun r h => mset_ne h
  have e0 : ∀ k, k ≠ 4 → clrA α 0 k = α 0 k := fun k h => mset_other (by omega)
  have eN : aN (clrA α) = aN α := by unfold aN; rw [e0 0 (by omega)]
  have eR : aR (clrA α) = aR α := by unfold aR; rw [e0 1 (by omega)]
  have eX : aX (clrA α) = aX α := by unfold aX; rw [e0 2 (by omega)]
  have eL : aL (clrA α) = aL α := by unfold aL; rw [e0 3 (by omega)]
  have e4 : clrA α 0 4 = 0 := mset_same
  have eT : aT (clrA α) = 0 := by unfold aT; rw [e4]; rfl
  refine ⟨⟨?_, ?_, ?_, ?_, ?_⟩, ww.eq (e 1 (by omega)), wr.eq (e0 1 (by omega)) (e 2 (by omega)) (e 3 (by omega)), wh.eq wc (e0 0 (by omega)) (fun f _ i _ => by rw [e (4 + f) (by omega)]), ?_, wx.eq (e0 2 (by omega)) (e 17 (by omega)) (e 18 (by omega)), wi.eq (by omega) (by omega) (by omega) (e 11 (by omega)) (e 12 (by omega)) (e 13 (by omega)), ws.eq (e 14 (by omega)) (e 15 (by omega))⟩
  · rw [eN, e0 0 (by omega)]; exact wc.1
  · rw [eR, e0 1 (by omega)]; exact wc.2.1
  · rw [eX, e0 2 (by omega)]; exact wc.2.2.1
  · rw [eL, eX, e0 3 (by omega)]; exact wc.2.2.2.1
  · rw [eT, e4]; exact ⟨rfl, by omega⟩
  · intro i hi
    rw [eT] at hi
    omega
theorem wf_txt {α : Mem} {r : RDR} (hf : WF α) (hx : aX α < 6) (hr : ∀ p, p < 3 → (∀ x, x ∈ prC r p → validS x) ∧ okL (prC r p) 0 ∧ htL (prC r p) 0 = 1 ∧ (prC r p).length ≤ 160) : WF (txtA α r) := by
  obtain ⟨wc, ww, wr, wh, wt, wx, wi, ws⟩ := hf
  have e : ∀ a, a ≠ 0 ∧ a ≠ 17 ∧ a ≠ 18 → txtA α r a = α a := fun a h => txtA_row h
  have e0 : ∀ k, k ≠ 2 → k ≠ 4 → txtA α r 0 k = α 0 k := fun k h2 h4 => txtA_0 h2 h4
  have eN : aN (txtA α r) = aN α := by unfold aN; rw [e0 0 (by omega) (by omega)]
  have eR : aR (txtA α r) = aR α := by unfold aR; rw [e0 1 (by omega) (by omega)]
  have eL : aL (txtA α r) = aL α := by unfold aL; rw [e0 3 (by omega) (by omega)]
  have e2 : txtA α r 0 2 = nI (aX α + 1) := rfl
  have e4 : txtA α r 0 4 = 0 := rfl
  have eX : aX (txtA α r) = aX α + 1 := by
    show (txtA α r 0 2).toNatClampNeg = _
    rw [e2, ix_nI (by omega)]
  have eT : aT (txtA α r) = 0 := by unfold aT; rw [e4]; rfl
  refine ⟨⟨?_, ?_, ?_, ?_, ?_⟩, ww.eq (e 1 (by omega)), wr.eq (e0 1 (by omega) (by omega)) (e 2 (by omega)) (e 3 (by omega)), wh.eq wc (e0 0 (by omega) (by omega)) (fun f _ i _ => by rw [e (4 + f) (by omega)]), ?_, ?_, wi.eq (by omega) (by omega) (by omega) (e 11 (by omega)) (e 12 (by omega)) (e 13 (by omega)), ws.eq (e 14 (by omega)) (e 15 (by omega))⟩
  · rw [eN, e0 0 (by omega) (by omega)]; exact wc.1
  · rw [eR, e0 1 (by omega) (by omega)]; exact wc.2.1
  · rw [eX, e2]; exact ⟨rfl, by omega⟩
  · rw [eL, eX, e0 3 (by omega) (by omega)]; exact ⟨wc.2.2.2.1.1, Nat.lt_succ_of_lt wc.2.2.2.1.2⟩
  · rw [eT, e4]; exact ⟨rfl, by omega⟩
  · intro i hi
    rw [eT] at hi
    omega
  · intro t ht p hp
    rw [eX] at ht
    by_cases c : t = aX α
    · subst c
      obtain ⟨h1, h2, h3, h4⟩ := hr p hp
      refine ⟨(prC r p).length, h4, txtA_17 hp, wfE_congr (fun k hk => (txtA_18 hp (by omega)).symm) (wfE_of h2 h3)⟩
    · obtain ⟨n, h1, h2, h3⟩ := wx t (by omega) p hp
      exact ⟨n, h1, by rw [txtA_17o (by omega) hp]; exact h2, wfE_congr (fun k hk => (txtA_18o (by omega) hp (by omega)).symm) h3⟩
theorem aX_lt {α : Mem} (hf : wfC α) (h : α 0 2 < 6) : aX α < 6 := by
  have := hf.2.2.1.2
  rw [hf.2.2.1.1] at h
  exact lt_nI (m := 6) (by omega) (by omega) h
theorem wf_text {α : Mem} (hf : WF α) : WF (sq_text α) := by
  unfold sq_text
  split
  · rename_i c
    split
    · rename_i ca
      exact wf_txt hf (aX_lt hf.1 c) (rdAll_inv hf.1.2.2.2.2.2 (rdT_some hf.1) ca).2
    · exact wf_clr hf
  · exact hf
/-! the view -/
theorem stX_3 {ν : Mem} {o l0 l1 l2 : Nat} (hs : l0 + l1 + l2 ≤ 160) (h0 : ν (o + 2) 0 = nI l0) (h1 : ν (o + 2) 1 = nI (l0 + l1)) (h2 : ν (o + 2) 2 = nI (l0 + l1 + l2)) : (stX ν o 0 = 0 ∧ lenX ν o 0 = l0) ∧ (stX ν o 1 = l0 ∧ lenX ν o 1 = l1) ∧ (stX ν o 2 = l0 + l1 ∧ lenX ν o 2 = l2) := by
  have s0 : stX ν o 0 = 0 := rfl
  have s1 : stX ν o 1 = l0 := by
    show (ν (o + 2) 0).toNatClampNeg = l0
    rw [h0, ix_nI (by omega)]
  have s2 : stX ν o 2 = l0 + l1 := by
    show (ν (o + 2) 1).toNatClampNeg = l0 + l1
    rw [h1, ix_nI (by omega)]
  refine ⟨⟨s0, ?_⟩, ⟨s1, ?_⟩, ⟨s2, ?_⟩⟩
  · unfold lenX
    rw [s0, h0, ix_nI (by omega), Nat.sub_zero]
  · unfold lenX
    rw [s1, h1, ix_nI (by omega), Nat.add_sub_cancel_left]
  · unfold lenX
    rw [s2, h2, ix_nI (by omega), Nat.add_sub_cancel_left]
theorem getD_mem {c : List Int32} {k : Nat} (hk : k < c.length) : c.getD k 0 ∈ c := by
  have e : c.getD k 0 = c[k] := by simp [List.getD, hk]
  rw [e]
  exact List.getElem_mem hk
theorem vx_frR {α μ ν : Mem} (hf : WF α) (h : VX α μ) (hx : aX α < 6) (hr : FrR (50 + 4 * aX α) μ ν) : VX (clrA α) (mset ν 24 1 0) ∧ keepM μ (mset ν 24 1 0) ∧ ∀ a, a ≠ 23 → a ≠ 24 → (a < 50 + 4 * aX α ∨ 52 + 4 * aX α < a) → mset ν 24 1 0 a = μ a := by
  obtain ⟨⟨vc, vw, vr, vh, vt, vi, vs, vx⟩, vd⟩ := h
  have e : ∀ r, r ≠ 0 → clrA α r = α r := fun r h => mset_ne h
  have e0 : ∀ k, k ≠ 4 → clrA α 0 k = α 0 k := fun k h => mset_other (by omega)
  have n : ∀ a, a ≠ 23 → a ≠ 24 → (a < 50 + 4 * aX α ∨ 52 + 4 * aX α < a) → mset ν 24 1 0 a = μ a := fun a h1 h2 h3 => by
    rw [mset_ne h2]
    exact hr.1 a h1 h2 (by omega) (by omega) (by omega)
  have eT : aT (clrA α) = 0 := by unfold aT clrA; rw [mset_same]; rfl
  have eX : aX (clrA α) = aX α := by unfold aX; rw [e0 2 (by omega)]
  refine ⟨⟨⟨⟨?_, ?_, ?_, ?_, ?_⟩, ?_, ?_, ?_, ?_, ?_, ?_, ?_⟩, ?_⟩, fun a ha => n a (by omega) (by omega) (by omega), n⟩
  · rw [n 10 (by omega) (by omega) (by omega), e0 0 (by omega)]; exact vc.1
  · rw [n 10 (by omega) (by omega) (by omega), e0 1 (by omega)]; exact vc.2.1
  · rw [n 10 (by omega) (by omega) (by omega), e0 2 (by omega)]; exact vc.2.2.1
  · rw [n 10 (by omega) (by omega) (by omega), e0 3 (by omega)]; exact vc.2.2.2.1
  · unfold clrA; rw [mset_same, mset_same]
  · exact vw.eq (e 1 (by omega)) (fun a _ => n (12 + a) (by omega) (by omega) (by omega))
  · exact vr.eq (e0 1 (by omega)) (e 2 (by omega)) (e 3 (by omega)) (n 20 (by omega) (by omega) (by omega)) (n 21 (by omega) (by omega) (by omega))
  · exact vh.eq hf.1 (e0 0 (by omega)) (fun f _ i _ => by rw [e (4 + f) (by omega)]) (fun i _ f _ => by rw [n (43 + i) (by omega) (by omega) (by omega)])
  · intro i hi
    rw [eT] at hi
    omega
  · exact vi.eq (e 11 (by omega)) (e 12 (by omega)) (e 13 (by omega)) (n 32 (by omega) (by omega) (by omega)) (fun a _ => n (34 + a) (by omega) (by omega) (by omega)) (n 41 (by omega) (by omega) (by omega))
  · exact vs.eq (e 14 (by omega)) (e 15 (by omega)) (e 16 (by omega)) (fun a _ _ => n a (by omega) (by omega) (by omega))
  · intro t ht
    rw [eX] at ht
    exact (vx t ht).eq (e 17 (by omega)) (e 18 (by omega)) (n _ (by omega) (by omega) (by omega)) (n _ (by omega) (by omega) (by omega))
  · exact vd.eq (e0 0 (by omega)) (e0 3 (by omega)) (e 1 (by omega)) (fun f _ => e (4 + f) (by omega)) (e 17 (by omega)) (e 18 (by omega)) hf.1 (fun i _ f _ => by rw [n (43 + i) (by omega) (by omega) (by omega)])
theorem saidA_txt {α : Mem} {r : RDR} (hf : WF α) {p i : Nat} (hp : p < 3) : saidA (txtA α r) p i = saidA α p i := by
  have e : ∀ a, a ≠ 0 ∧ a ≠ 17 ∧ a ≠ 18 → txtA α r a = α a := fun a h => txtA_row h
  have eL : aL (txtA α r) = aL α := by unfold aL; rw [txtA_0 (by omega) (by omega)]
  have hl := hf.1.2.2.2.1.2
  obtain ⟨n, hn, h17, hw⟩ := hf.2.2.2.2.2.1 _ hl p hp
  have ee : envA (txtA α r) i = envA α i := by
    funext k
    unfold envA
    rw [e 7 (by omega), e 8 (by omega), e 5 (by omega), e 6 (by omega), e 9 (by omega), e 1 (by omega)]
  unfold saidA sayA
  rw [eL, ee, txtA_17o hl hp, h17, ix_nI (by omega)]
  unfold valE
  rw [runE_congr (n := n) (fun _ _ => rfl) (fun k hk => txtA_18o hl hp (by omega)) n (Nat.le_refl n)]
theorem vx_txt {α ν : Mem} {r : RDR} (hf : WF α) (hx : aX α < 6) (h : VX (clrA α) ν) (hr : ∀ p, p < 3 → (∀ x, x ∈ prC r p → validS x)) (hs : r.2.1.length + r.2.2.1.length + r.2.2.2.length ≤ 160) (h0 : ν (52 + 4 * aX α) 0 = nI r.2.1.length) (h1 : ν (52 + 4 * aX α) 1 = nI (r.2.1.length + r.2.2.1.length)) (h2 : ν (52 + 4 * aX α) 2 = nI (r.2.1.length + r.2.2.1.length + r.2.2.2.length)) (g0 : ∀ i, i < r.2.1.length → ν (51 + 4 * aX α) i = r.2.1.getD i 0) (g1 : ∀ i, i < r.2.2.1.length → ν (51 + 4 * aX α) (r.2.1.length + i) = r.2.2.1.getD i 0) (g2 : ∀ i, i < r.2.2.2.length → ν (51 + 4 * aX α) (r.2.1.length + r.2.2.1.length + i) = r.2.2.2.getD i 0) : VX (txtA α r) (mset ν 10 11 (nI (aX α + 1))) := by
  obtain ⟨⟨vc, vw, vr, vh, vt, vi, vs, vx⟩, vd⟩ := h
  have c0 : ∀ k, k ≠ 4 → clrA α 0 k = α 0 k := fun k h => mset_other (by omega)
  have cr : ∀ r, r ≠ 0 → clrA α r = α r := fun r h => mset_ne h
  have e : ∀ a, a ≠ 0 ∧ a ≠ 17 ∧ a ≠ 18 → txtA α r a = clrA α a := fun a h => by rw [txtA_row h, cr a h.1]
  have e0 : ∀ k, k ≠ 2 → txtA α r 0 k = clrA α 0 k := fun k h2 => by
    by_cases h4 : k = 4
    · subst h4
      unfold clrA
      rw [mset_same]
      rfl
    · rw [txtA_0 h2 h4, c0 k h4]
  have n : ∀ a, a ≠ 10 → mset ν 10 11 (nI (aX α + 1)) a = ν a := fun a h => mset_ne h
  have n0 : ∀ k, k ≠ 11 → mset ν 10 11 (nI (aX α + 1)) 10 k = ν 10 k := fun k h => mset_other (by omega)
  have hfc := (wf_clr hf)
  have eN : aN (txtA α r) = aN α := by unfold aN; rw [txtA_0 (by omega) (by omega)]
  have eNc : aN (clrA α) = aN α := by unfold aN; rw [c0 0 (by omega)]
  have eX : aX (txtA α r) = aX α + 1 := by
    show (nI (aX α + 1)).toNatClampNeg = _
    rw [ix_nI (by omega)]
  have eXc : aX (clrA α) = aX α := by unfold aX; rw [c0 2 (by omega)]
  refine ⟨⟨⟨?_, ?_, ?_, ?_, ?_⟩, ?_, ?_, ?_, ?_, ?_, ?_, ?_⟩, ?_⟩
  · rw [n0 9 (by omega), e0 0 (by omega)]; exact vc.1
  · rw [n0 10 (by omega), e0 1 (by omega)]; exact vc.2.1
  · rw [mset_same]; rfl
  · rw [n0 12 (by omega), e0 3 (by omega)]; exact vc.2.2.2.1
  · rw [n 24 (by omega), e0 4 (by omega)]; exact vc.2.2.2.2
  · exact vw.eq (e 1 (by omega)) (fun a _ => n (12 + a) (by omega))
  · exact vr.eq (e0 1 (by omega)) (e 2 (by omega)) (e 3 (by omega)) (n 20 (by omega)) (n 21 (by omega))
  · exact vh.eq hfc.1 (e0 0 (by omega)) (fun f _ i _ => by rw [e (4 + f) (by omega)]) (fun i _ f _ => by rw [n (43 + i) (by omega)])
  · exact vt.eq (e0 4 (by omega)) (e 10 (by omega)) (n 25 (by omega))
  · exact vi.eq (e 11 (by omega)) (e 12 (by omega)) (e 13 (by omega)) (n 32 (by omega)) (fun a _ => n (34 + a) (by omega)) (n 41 (by omega))
  · exact vs.eq (e 14 (by omega)) (e 15 (by omega)) (e 16 (by omega)) (fun a _ _ => n a (by omega))
  · intro t ht
    rw [eX] at ht
    by_cases c : t = aX α
    · subst c
      refine vXx1_row (μ := ν) (n _ (by omega)) (n _ (by omega)) ?_
      have h0' : ν (50 + 4 * aX α + 2) 0 = nI r.2.1.length := by rw [show 50 + 4 * aX α + 2 = 52 + 4 * aX α by omega]; exact h0
      have h1' : ν (50 + 4 * aX α + 2) 1 = nI (r.2.1.length + r.2.2.1.length) := by rw [show 50 + 4 * aX α + 2 = 52 + 4 * aX α by omega]; exact h1
      have h2' : ν (50 + 4 * aX α + 2) 2 = nI (r.2.1.length + r.2.2.1.length + r.2.2.2.length) := by rw [show 50 + 4 * aX α + 2 = 52 + 4 * aX α by omega]; exact h2
      obtain ⟨⟨s0, l0⟩, ⟨s1, l1⟩, ⟨s2, l2⟩⟩ := stX_3 hs h0' h1' h2'
      have step : ∀ p, p < 3 → ∀ k, k < (prC r p).length → k < 160 → ν (51 + 4 * aX α) (stX ν (50 + 4 * aX α) p + k) = (prC r p).getD k 0 → validS (ν (51 + 4 * aX α) (stX ν (50 + 4 * aX α) p + k)) ∧ codeX ν (50 + 4 * aX α) p k = txtA α r 18 (160 * (3 * aX α + p) + k) := by
        intro p hp k hk hk160 he
        refine ⟨by rw [he]; exact hr p hp _ (getD_mem hk), ?_⟩
        unfold codeX
        rw [txtA_18 hp hk160, show 50 + 4 * aX α + 1 = 51 + 4 * aX α by omega, he]
      intro p hp
      rcases (show p = 0 ∨ p = 1 ∨ p = 2 by omega) with rfl | rfl | rfl
      · refine ⟨fun q => absurd q (Nat.lt_irrefl 0), ?_, ?_, ?_, ?_⟩
        · rw [s0, l0, Nat.zero_add]; exact h0
        · rw [s0, l0]; omega
        · rw [l0]; exact txtA_17 (by omega)
        · intro k hk
          rw [l0] at hk
          exact step 0 (by omega) k hk (by omega) (by rw [s0, Nat.zero_add]; exact g0 k hk)
      · refine ⟨fun _ => ?_, ?_, ?_, ?_, ?_⟩
        · rw [s1]; exact h0
        · rw [s1, l1]; exact h1
        · rw [s1, l1]; omega
        · rw [l1]; exact txtA_17 (by omega)
        · intro k hk
          rw [l1] at hk
          exact step 1 (by omega) k hk (by omega) (by rw [s1]; exact g1 k hk)
      · refine ⟨fun _ => ?_, ?_, ?_, ?_, ?_⟩
        · rw [s2]; exact h1
        · rw [s2, l2]; exact h2
        · rw [s2, l2]; omega
        · rw [l2]; exact txtA_17 (by omega)
        · intro k hk
          rw [l2] at hk
          exact step 2 (by omega) k hk (by omega) (by rw [s2]; exact g2 k hk)
    · have q := vXx1_row (ν := mset ν 10 11 (nI (aX α + 1))) (n _ (by omega)) (n _ (by omega)) (vx t (by rw [eXc]; omega))
      intro p hp
      obtain ⟨a1, a2, a3, a4, a5⟩ := q p hp
      refine ⟨a1, a2, a3, ?_, fun k hk => ?_⟩
      · rw [txtA_17o (by omega) hp, ← cr 17 (by omega)]; exact a4
      · obtain ⟨b1, b2⟩ := a5 k hk
        refine ⟨b1, ?_⟩
        rw [txtA_18o (by omega) hp (by omega), ← cr 18 (by omega)]
        exact b2
  · intro i hi p hp
    rw [eN] at hi
    rw [n (43 + i) (by omega), saidA_txt hf hp]
    have q := vd i (by rw [eNc]; exact hi) p hp
    rw [saidA_eq (α := α) (c0 3 (by omega)) (cr 1 (by omega)) (fun f _ => by rw [cr (4 + f) (by omega)]) (cr 17 (by omega)) (cr 18 (by omega))] at q
    exact q
theorem sg_X7_text_0 {G : GW} {K : Option Value → Mem → Prop} {μ : Mem}   (h : (((μ 10 11) < 6) → (vp_in (μ 10 11) 6) ∧ (rdPre μ) ∧ ∀ (z8 : Int32) (μ9 : Mem), (rdRel μ (50 + 4 * (μ 10 11).toNatClampNeg) z8 μ9) → ((z8 = (-1)) → K (some (.int ((((mset μ9 24 1 0) 10 11) + 1) - 1))) (mset (mset μ9 24 1 0) 10 11 (((mset μ9 24 1 0) 10 11) + 1))) ∧ ((¬ (z8 = (-1))) → K (some (.int ((-100) - z8))) (mset μ9 24 1 0))) ∧ ((¬ ((μ 10 11) < 6)) → K (some (.int (-4))) μ)) : Ev2 G mX7_text 72 0 [(0, .ref 10)] [] μ K := by
  refine ev_aload_n dX7_text_0 0 rfl (by decide) ?_
  refine ev_getI' (v := (μ 10 11)) fl_7_67 rfl kd_10 rfl dX7_text_1 ?_
  refine ev_bipush (v := 6) dX7_text_4 rfl ?_
  refine ev_icmp_lt (tgt := 12) dX7_text_6 rfl (fun c1 => ?_) (fun c1 => ?_)
  · have h2 := h.1 c1
    refine ev_aload_n dX7_text_12 0 rfl (by decide) ?_
    refine ev_getR' fl_7_36 rfl kd_10 rf_10_5 dX7_text_13 ?_
    refine ev_aload_n dX7_text_16 0 rfl (by decide) ?_
    refine ev_getR' fl_7_29 rfl kd_10 rf_10_4 dX7_text_17 ?_
    refine ev_aload_n dX7_text_20 0 rfl (by decide) ?_
    refine ev_getI' (v := (μ 10 11)) fl_7_67 rfl kd_10 rfl dX7_text_21 ?_
    have p4 := h2.1
    have h5 := h2.2
    refine ev_aaload' (k := 6) kd_22 (by omega) ln_22 p4 (raT p4) dX7_text_24 ?_
    have p6 := h5.1
    have h7 := h5.2
    refine e2_callVr (Rl := fun z8 μ9 => rdRel μ (50 + 4 * (μ 10 11).toNatClampNeg) z8 μ9) (a := 23) (as := [.ref (50 + 4 * (μ 10 11).toNatClampNeg)]) (st := []) ok_X2_read vi_X2_read ml_7_118 hcl_2 kd_23 dX7_text_25 rfl rfl (Nat.le_of_ble_eq_true rfl) (Nat.le_of_ble_eq_true rfl) (by decide) (ct_X2_read  (50 + 4 * (μ 10 11).toNatClampNeg) (isT p4) μ p6) (fun z8 μ9 r10 => ?_)
    have h11 := h7 z8 μ9 r10
    refine ev_istore_n (lv' := [(0, .ref 10), (1, .int z8)]) dX7_text_28 (by decide) [1, 0] rfl ?_
    refine ev_aload_n dX7_text_29 0 rfl (by decide) ?_
    refine ev_getR' fl_7_36 rfl kd_10 rf_10_5 dX7_text_30 ?_
    refine ev_getR' fl_7_101 rfl kd_23 rf_23_0 dX7_text_33 ?_
    refine e2_callVv (μ1 := (mset μ9 24 1 0)) (a := 24) (as := []) (st := []) ok_X5_clear vi_X5_clear ml_7_122 hcl_5 kd_24 dX7_text_36 rfl rfl (Nat.le_of_ble_eq_true rfl) (Nat.le_of_ble_eq_true rfl) (by decide) (ct_X5_clear μ9) ?_
    refine ev_iload_n dX7_text_39 1 rfl ?_
    refine ev_iconst (v := (-1)) dX7_text_40 rfl ?_
    refine ev_icmp_eq (tgt := 49) dX7_text_41 rfl (fun c12 => ?_) (fun c12 => ?_)
    · have h13 := h11.1 c12
      refine ev_aload_n dX7_text_49 0 rfl (by decide) ?_
      refine ev_dup dX7_text_50 rfl ?_
      refine ev_getI' (v := ((mset μ9 24 1 0) 10 11)) fl_7_67 rfl kd_10 rfl dX7_text_51 ?_
      refine ev_iconst (v := 1) dX7_text_54 rfl ?_
      refine ev_iadd dX7_text_55 ?_
      refine ev_putI fl_7_67 ⟨rfl, rfl, rfl⟩ (fun r hr => by cases hr; rfl) kd_10 dX7_text_56 ?_
      refine ev_aload_n dX7_text_59 0 rfl (by decide) ?_
      refine ev_getI' (v := (((mset μ9 24 1 0) 10 11) + 1)) fl_7_67 rfl kd_10 rfl dX7_text_60 ?_
      refine ev_iconst (v := 1) dX7_text_63 rfl ?_
      refine ev_isub dX7_text_64 ?_
      exact ev_ireturn dX7_text_65 rfl True.intro rfl rfl ⟨rfl, h13⟩
    · have h14 := h11.2 c12
      refine ev_bipush (v := (-100)) dX7_text_44 rfl ?_
      refine ev_iload_n dX7_text_46 1 rfl ?_
      refine ev_isub dX7_text_47 ?_
      exact ev_ireturn dX7_text_48 rfl True.intro rfl rfl ⟨rfl, h14⟩
  · have h3 := h.2 c1
    refine ev_bipush (v := (-4)) dX7_text_9 rfl ?_
    exact ev_ireturn dX7_text_11 rfl True.intro rfl rfl ⟨rfl, h3⟩
theorem pb_X7_text {G : GW} {α μ : Mem} (hf : WF α) (h : VX α μ) : pubX G mX7_text 72 [(0, .ref 10)] α μ (.int (sp_text α)) (sq_text α) := by
  have hk := keepM.rf μ
  have cX : μ 10 11 = α 0 2 := h.1.1.2.2.1
  have cT : μ 24 1 = α 0 4 := h.1.1.2.2.2.2
  obtain ⟨wT, hT⟩ := hf.1.2.2.2.2
  have hvt : ∀ k, k < aT α → μ 25 k = α 10 k := h.1.2.2.2.2.1
  have hall := rdT_some hf.1
  rw [← tkT_cg hvt, ← nvT_cg hvt] at hall
  refine sg_X7_text_0 ⟨fun c => ?_, fun c => ?_⟩
  · rw [cX] at c ⊢
    have hx := aX_lt hf.1 c
    have wX := hf.1.2.2.1.1
    have eX : (α 0 2).toNatClampNeg = aX α := rfl
    rw [eX]
    refine ⟨by rw [wX]; exact vp_nI hx (by omega), ⟨aT α, hT, cT.trans wT⟩, fun z ν hν => ?_⟩
    obtain ⟨hz, hfr, hal⟩ := hν (aT α) (rdT α) hT (cT.trans wT) hall
    obtain ⟨v1, v2, v3⟩ := vx_frR hf h hx hfr
    have e10 : mset ν 24 1 0 10 11 = nI (aX α) := by rw [v3 10 (by omega) (by omega) (by omega), cX]; exact wX
    rw [e10, nI_1]
    by_cases ca : (rdT α).1.1 = true
    · have hz : z = -1 := by rw [hz]; exact if_pos ca
      refine ⟨fun _ => ⟨?_, ?_, ?_⟩, fun q => absurd hz q⟩
      · unfold sp_text
        rw [if_pos c, if_pos ca, wX, nI_pred]
      · unfold sq_text
        rw [if_pos c, if_pos ca]
        obtain ⟨a1, a2, a3, a4, a5, a6, a7⟩ := hal ca
        have hi := rdAll_inv hf.1.2.2.2.2.2 (rdT_some hf.1) ca
        have e52 : ∀ k, mset ν 24 1 0 (52 + 4 * aX α) k = ν (50 + 4 * aX α + 2) k := fun k => by rw [mset_ne (by omega), show 52 + 4 * aX α = 50 + 4 * aX α + 2 by omega]
        have e51 : ∀ k, mset ν 24 1 0 (51 + 4 * aX α) k = ν (50 + 4 * aX α + 1) k := fun k => by rw [mset_ne (by omega), show 51 + 4 * aX α = 50 + 4 * aX α + 1 by omega]
        exact vx_txt hf hx v1 (fun p hp => (hi.2 p hp).1) a1 (by rw [e52]; exact a2) (by rw [e52]; exact a3) (by rw [e52]; exact a4) (fun i q => by rw [e51]; exact a5 i q) (fun i q => by rw [e51]; exact a6 i q) (fun i q => by rw [e51]; exact a7 i q)
      · exact v2.tr (keep_set _ (by omega) _)
    · have hz : z = nI (stT (μ 25) (aT α) (rdT α).1.2) := by rw [hz]; exact if_neg ca
      have hst := (stT_le (μ 25) (aT α) (rdT α).1.2).2
      refine ⟨fun q => ?_, fun _ => ⟨?_, ?_, v2⟩⟩
      · rw [hz] at q
        have q2 := congrArg Int32.toInt q
        rw [nI_toInt (by omega)] at q2
        have : (-1 : Int32).toInt = -1 := by decide
        omega
      · unfold sp_text
        rw [if_pos c, if_neg ca, hz, stT_cg hvt]
      · unfold sq_text
        rw [if_pos c, if_neg ca]
        exact v1
  · rw [cX] at c
    unfold sp_text sq_text
    rw [if_neg c, if_neg c]
    exact ⟨rfl, h, hk⟩
