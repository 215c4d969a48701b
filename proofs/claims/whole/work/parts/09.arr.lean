/-! ===== arrays of the abstract machine, and what is made ===== -/
def S_new (S : HS) (ci N : Nat) : HS := (S.1 + 1, S.2.1 + N, (fun a => if a = S.1 then 10 + ci else S.2.2.1 a), S.2.2.2.1, S.2.2.2.2)
def S_arr (S : HS) (k n : Nat) : HS := (S.1 + 1, S.2.1 + n, (fun a => if a = S.1 then k else S.2.2.1 a), (fun a => if a = S.1 then n else S.2.2.2.1 a), S.2.2.2.2)
section HP2
variable {G : GW} {S S' : HS} {μ μ' : Mem} {H H' : Heap} {a : Nat}
theorem HR.next (h : HR G S μ H) : g_adr G S.1 = H.size := by
  have h1 := h.1
  have h2 := h.2.1
  rw [g_adr_hi h1]
  omega
theorem HR.push (h : HR G S μ H) (hn : S'.1 = S.1 + 1) (hsz : H'.size = H.size + 1) (ho : ∀ q : Nat, q < H.size → H'[q]? = H[q]?)
    (hk : ∀ b, b ≠ S.1 → S'.2.2.1 b = S.2.2.1 b) (hl : ∀ b, b ≠ S.1 → S'.2.2.2.1 b = S.2.2.2.1 b) (hm : ∀ b, b ≠ S.1 → ∀ k, μ' b k = μ b k) (hr : ∀ b, b ≠ S.1 → ∀ k, S'.2.2.2.2 b k = S.2.2.2.2 b k)
    (hc : g_cell G S' μ' S.1 H') : HR G S' μ' H' := by
  have hnx := h.next
  obtain ⟨a1, a2, a3, a4, a5⟩ := h
  refine ⟨by omega, by rw [hsz]; omega, fun q hq => ?_, fun b hb => ?_, fun b hb => ?_⟩
  · rw [ho q (by omega)]
    exact a3 q hq
  · by_cases e : b = S.1
    · omega
    · rw [hk b e] at hb
      have := a4 b hb
      omega
  · by_cases e : b = S.1
    · rw [e]
      exact hc
    · rw [hk b e] at hb
      obtain ⟨b1, b2⟩ := a4 b hb
      exact (a5 b hb).kept (ho _ (by rw [g_adr_hi b1]; omega)) (hk b e) (hl b e) (hm b e) (hr b e)
end HP2
theorem va_in_lt {i : Int32} {n : Nat} (h : vp_in i n) : i.toNatClampNeg < n := Nat.not_le.mp fun q => h (Or.inr q)
section EVA
variable {G : GW} {M : MK} {d N Z pc : Nat} {lv : List (Nat × Value)} {st : List Value} {S : HS} {μ : Mem} {K : Option Value → HS → Mem → Prop}
theorem ev_iaload {q : Nat} {i : Int32} (hk : S.2.2.1 q = 1) (hin : vp_in i (S.2.2.2.1 q)) (hd : decode M.2.1 pc = .ok (.iaload, 1)) (kk : EvW G M d N Z (pc + 1) lv (.int (μ q i.toNatClampNeg) :: st) S μ K) : EvW G M d N Z pc lv (.int i :: .ref q :: st) S μ K := by
  intro p l e R s m args below meth c H locs n0 z0 lsA Q C hH hn0 hz0 hN hZ hlo hl fin
  have kw := kk p l e R s m args below meth c H locs n0 z0 lsA Q C hH hn0 hz0 hN hZ hlo hl fin
  have hq : S.2.2.1 q ≠ 0 := by omega
  show W p l e R s m args below meth c H locs _ _ Q (F0 m pc lsA (.int i :: List.map (cv G) (.ref q :: st)))
  rw [st_ref (hH.nz hq)]
  exact W.iald (v := .int (μ q i.toNatClampNeg)) C.1 C.2.1 (hH.ints hk (by omega) (by omega)) ((C.2.2.2.2.2.2.2.2.2.1.2 0 (G.2.2.2.1 1, .int) rfl).1 _ _) (fun q => by cases q) (by rw [arrV_size]; exact hin) (by rw [arrV_read _ _ (va_in_lt hin)]) rfl rfl hd kw
theorem ev_zaload {q : Nat} {i : Int32} (hk : S.2.2.1 q = 2) (hin : vp_in i (S.2.2.2.1 q)) (hd : decode M.2.1 pc = .ok (.baload, 1)) (kk : EvW G M d N Z (pc + 1) lv (.int (μ q i.toNatClampNeg) :: st) S μ K) : EvW G M d N Z pc lv (.int i :: .ref q :: st) S μ K := by
  intro p l e R s m args below meth c H locs n0 z0 lsA Q C hH hn0 hz0 hN hZ hlo hl fin
  have kw := kk p l e R s m args below meth c H locs n0 z0 lsA Q C hH hn0 hz0 hN hZ hlo hl fin
  have hq : S.2.2.1 q ≠ 0 := by omega
  show W p l e R s m args below meth c H locs _ _ Q (F0 m pc lsA (.int i :: List.map (cv G) (.ref q :: st)))
  rw [st_ref (hH.nz hq)]
  exact W.zald (v := .int (μ q i.toNatClampNeg)) C.1 C.2.1 (hH.ints hk (by omega) (by omega)) ((C.2.2.2.2.2.2.2.2.2.1.2 1 (G.2.2.2.1 2, .boolean) rfl).1 _ _) (fun q => by cases q) (by rw [arrV_size]; exact hin) (by rw [arrV_read _ _ (va_in_lt hin)]) rfl rfl hd kw
theorem ev_caload {q : Nat} {i : Int32} (hk : S.2.2.1 q = 3) (hin : vp_in i (S.2.2.2.1 q)) (hd : decode M.2.1 pc = .ok (.caload, 1)) (kk : EvW G M d N Z (pc + 1) lv (.int (μ q i.toNatClampNeg) :: st) S μ K) : EvW G M d N Z pc lv (.int i :: .ref q :: st) S μ K := by
  intro p l e R s m args below meth c H locs n0 z0 lsA Q C hH hn0 hz0 hN hZ hlo hl fin
  have kw := kk p l e R s m args below meth c H locs n0 z0 lsA Q C hH hn0 hz0 hN hZ hlo hl fin
  have hq : S.2.2.1 q ≠ 0 := by omega
  show W p l e R s m args below meth c H locs _ _ Q (F0 m pc lsA (.int i :: List.map (cv G) (.ref q :: st)))
  rw [st_ref (hH.nz hq)]
  exact W.cald (v := .int (μ q i.toNatClampNeg)) C.1 C.2.1 (hH.ints hk (by omega) (by omega)) ((C.2.2.2.2.2.2.2.2.2.1.2 2 (G.2.2.2.1 3, .char) rfl).1 _ _) (fun q => by cases q) (by rw [arrV_size]; exact hin) (by rw [arrV_read _ _ (va_in_lt hin)]) rfl rfl hd kw
theorem ev_aaload {q k : Nat} {i : Int32} (hk : S.2.2.1 q = k) (h4 : 4 ≤ k ∧ k ≤ 7) (hin : vp_in i (S.2.2.2.1 q)) (hd : decode M.2.1 pc = .ok (.aaload, 1)) (kk : EvW G M d N Z (pc + 1) lv (.ref (S.2.2.2.2 q i.toNatClampNeg) :: st) S μ K) : EvW G M d N Z pc lv (.int i :: .ref q :: st) S μ K := by
  intro p l e R s m args below meth c H locs n0 z0 lsA Q C hH hn0 hz0 hN hZ hlo hl fin
  have kw := kk p l e R s m args below meth c H locs n0 z0 lsA Q C hH hn0 hz0 hN hZ hlo hl fin
  have hq : S.2.2.1 q ≠ 0 := by omega
  show W p l e R s m args below meth c H locs _ _ Q (F0 m pc lsA (.int i :: List.map (cv G) (.ref q :: st)))
  rw [st_ref (hH.nz hq)]
  have hty : ∃ ty : FieldType, ty.isReference = true ∧ ArrOfT s (G.2.2.2.1 k) ty := by
    have T := C.2.2.2.2.2.2.2.2.2.1.2
    rcases (show k = 4 ∨ k = 5 ∨ k = 6 ∨ k = 7 by omega) with rfl | rfl | rfl | rfl
    · exact ⟨_, rfl, (T 3 (G.2.2.2.1 4, .array .int) rfl).1⟩
    · exact ⟨_, rfl, (T 4 (G.2.2.2.1 5, .object RX0) rfl).1⟩
    · exact ⟨_, rfl, (T 5 (G.2.2.2.1 6, .object RX6) rfl).1⟩
    · exact ⟨_, rfl, (T 6 (G.2.2.2.1 7, .object RX4) rfl).1⟩
  obtain ⟨ty, hr, hA⟩ := hty
  exact W.aald (v := g_rf G (S.2.2.2.2 q i.toNatClampNeg)) (ty := ty) C.1 C.2.1 (hH.refs hk h4.1 h4.2) (hA _ _) hr (fun q => by cases q) (by rw [arrV_size]; exact hin) (by rw [arrV_read _ _ (va_in_lt hin)]) rfl rfl hd kw
theorem ev_arraylength {q : Nat} (hk : S.2.2.1 q ≠ 0 ∧ S.2.2.1 q ≤ 7) (hd : decode M.2.1 pc = .ok (.arraylength, 1)) (kk : EvW G M d N Z (pc + 1) lv (.int (nI (S.2.2.2.1 q)) :: st) S μ K) : EvW G M d N Z pc lv (.ref q :: st) S μ K := by
  intro p l e R s m args below meth c H locs n0 z0 lsA Q C hH hn0 hz0 hN hZ hlo hl fin
  have kw := kk p l e R s m args below meth c H locs n0 z0 lsA Q C hH hn0 hz0 hN hZ hlo hl fin
  rw [st_ref (hH.nz hk.1)]
  have T := C.2.2.2.2.2.2.2.2.2.1.2
  have key : ∃ (cell : Cell) (ty : FieldType), H[g_adr G q]? = some cell ∧ s.isArrayOf cell ty ∧ cell.slots.size = S.2.2.2.1 q := by
    obtain ⟨k1, k2⟩ := hk
    generalize hkk : S.2.2.1 q = k at k1 k2
    rcases (show k = 1 ∨ k = 2 ∨ k = 3 ∨ k = 4 ∨ k = 5 ∨ k = 6 ∨ k = 7 by omega) with rfl | rfl | rfl | rfl | rfl | rfl | rfl
    · exact ⟨_, _, hH.ints hkk (by omega) (by omega), (T 0 (G.2.2.2.1 1, .int) rfl).1 _ _, arrV_size _ _ _⟩
    · exact ⟨_, _, hH.ints hkk (by omega) (by omega), (T 1 (G.2.2.2.1 2, .boolean) rfl).1 _ _, arrV_size _ _ _⟩
    · exact ⟨_, _, hH.ints hkk (by omega) (by omega), (T 2 (G.2.2.2.1 3, .char) rfl).1 _ _, arrV_size _ _ _⟩
    · exact ⟨_, _, hH.refs hkk (by omega) (by omega), (T 3 (G.2.2.2.1 4, .array .int) rfl).1 _ _, arrV_size _ _ _⟩
    · exact ⟨_, _, hH.refs hkk (by omega) (by omega), (T 4 (G.2.2.2.1 5, .object RX0) rfl).1 _ _, arrV_size _ _ _⟩
    · exact ⟨_, _, hH.refs hkk (by omega) (by omega), (T 5 (G.2.2.2.1 6, .object RX6) rfl).1 _ _, arrV_size _ _ _⟩
    · exact ⟨_, _, hH.refs hkk (by omega) (by omega), (T 6 (G.2.2.2.1 7, .object RX4) rfl).1 _ _, arrV_size _ _ _⟩
  obtain ⟨cell, ty, g1, g2, g3⟩ := key
  exact W.alen (n := nI (S.2.2.2.1 q)) C.1 C.2.1 g1 g2 (by rw [g3]; rfl) rfl rfl hd kw
theorem g_lo {G : GW} {S : HS} {μ : Mem} {H : Heap} {locs : List Loc} {a j : Nat} (hH : HR G S μ H) (ha : S.2.2.1 a ≠ 0) (hlo : ∀ q ∈ locs, G.1.size ≤ q.base) : ∀ q ∈ locs ++ [(⟨g_adr G a, j⟩ : Loc)], G.1.size ≤ q.base := by
  intro q hq
  rcases List.mem_append.mp hq with h | h
  · exact hlo q h
  · rw [List.mem_singleton.mp h]
    show G.1.size ≤ g_adr G a
    rw [g_adr_hi (hH.2.2.2.1 a ha).1]
    omega
theorem g_seti {G : GW} {S : HS} {μ : Mem} {q k j : Nat} {x : Int32} {H' : Heap} (hk : S.2.2.1 q = k) (h1 : 1 ≤ k) (h3 : k ≤ 3) (e : H'[g_adr G q]? = some ((arrV (G.2.2.2.1 k) (S.2.2.2.1 q) (fun j => .int (μ q j))).setSlot j (.int x))) : g_cell G S (mset μ q j x) q H' := by
  unfold g_cell
  rw [if_neg (by omega), if_pos (by omega), e, hk, arrV_store]
  congr 2
  funext j'
  by_cases ej : j' = j
  · subst ej
    simp [updV, mset]
  · simp [updV, mset, ej]
theorem ev_iastore {q : Nat} {i x : Int32} (hk : S.2.2.1 q = 1) (hin : vp_in i (S.2.2.2.1 q)) (hd : decode M.2.1 pc = .ok (.iastore, 1)) (kk : EvW G M d N Z (pc + 1) lv st S (mset μ q i.toNatClampNeg x) K) : EvW G M d N Z pc lv (.int x :: .int i :: .ref q :: st) S μ K := by
  intro p l e R s m args below meth c H locs n0 z0 lsA Q C hH hn0 hz0 hN hZ hlo hl fin
  have hq : S.2.2.1 q ≠ 0 := by omega
  show W p l e R s m args below meth c H locs _ _ Q (F0 m pc lsA (.int x :: .int i :: List.map (cv G) (.ref q :: st)))
  rw [st_ref (hH.nz hq)]
  refine W.iast C.1 C.2.1 (hH.ints hk (by omega) (by omega)) ((C.2.2.2.2.2.2.2.2.2.1.2 0 (G.2.2.2.1 1, .int) rfl).1 _ _) (fun q => by cases q) (by rw [arrV_size]; exact hin) rfl rfl hd fun H1 e1 z1 oq => ?_
  exact kk p l e R s m args below meth c H1 _ n0 z0 lsA Q C (hH.put (a := q) hq z1 oq rfl rfl rfl (fun b hb k' => mset_other (fun z => hb z.1)) (fun _ _ _ => rfl) (g_seti hk (by omega) (by omega) e1)) hn0 hz0 hN hZ (g_lo hH hq hlo) hl fin
theorem ev_zastore {q : Nat} {i x : Int32} (hk : S.2.2.1 q = 2) (hin : vp_in i (S.2.2.2.1 q)) (hx : narrow .boolean (.int x) = .int x) (hd : decode M.2.1 pc = .ok (.bastore, 1)) (kk : EvW G M d N Z (pc + 1) lv st S (mset μ q i.toNatClampNeg x) K) : EvW G M d N Z pc lv (.int x :: .int i :: .ref q :: st) S μ K := by
  intro p l e R s m args below meth c H locs n0 z0 lsA Q C hH hn0 hz0 hN hZ hlo hl fin
  have hq : S.2.2.1 q ≠ 0 := by omega
  show W p l e R s m args below meth c H locs _ _ Q (F0 m pc lsA (.int x :: .int i :: List.map (cv G) (.ref q :: st)))
  rw [st_ref (hH.nz hq)]
  refine W.zast C.1 C.2.1 (hH.ints hk (by omega) (by omega)) ((C.2.2.2.2.2.2.2.2.2.1.2 1 (G.2.2.2.1 2, .boolean) rfl).1 _ _) (fun q => by cases q) (by rw [arrV_size]; exact hin) rfl rfl hd fun H1 e1 z1 oq => ?_
  rw [hx] at e1
  exact kk p l e R s m args below meth c H1 _ n0 z0 lsA Q C (hH.put (a := q) hq z1 oq rfl rfl rfl (fun b hb k' => mset_other (fun z => hb z.1)) (fun _ _ _ => rfl) (g_seti hk (by omega) (by omega) e1)) hn0 hz0 hN hZ (g_lo hH hq hlo) hl fin
theorem ev_castore {q : Nat} {i x : Int32} (hk : S.2.2.1 q = 3) (hin : vp_in i (S.2.2.2.1 q)) (hx : narrow .char (.int x) = .int x) (hd : decode M.2.1 pc = .ok (.castore, 1)) (kk : EvW G M d N Z (pc + 1) lv st S (mset μ q i.toNatClampNeg x) K) : EvW G M d N Z pc lv (.int x :: .int i :: .ref q :: st) S μ K := by
  intro p l e R s m args below meth c H locs n0 z0 lsA Q C hH hn0 hz0 hN hZ hlo hl fin
  have hq : S.2.2.1 q ≠ 0 := by omega
  show W p l e R s m args below meth c H locs _ _ Q (F0 m pc lsA (.int x :: .int i :: List.map (cv G) (.ref q :: st)))
  rw [st_ref (hH.nz hq)]
  refine W.cast C.1 C.2.1 (hH.ints hk (by omega) (by omega)) ((C.2.2.2.2.2.2.2.2.2.1.2 2 (G.2.2.2.1 3, .char) rfl).1 _ _) (fun q => by cases q) (by rw [arrV_size]; exact hin) rfl rfl hd fun H1 e1 z1 oq => ?_
  rw [hx] at e1
  exact kk p l e R s m args below meth c H1 _ n0 z0 lsA Q C (hH.put (a := q) hq z1 oq rfl rfl rfl (fun b hb k' => mset_other (fun z => hb z.1)) (fun _ _ _ => rfl) (g_seti hk (by omega) (by omega) e1)) hn0 hz0 hN hZ (g_lo hH hq hlo) hl fin
/-- an object put into a row of objects of its class -/
theorem ev_aastore {q b k ci : Nat} {i : Int32} (hk : S.2.2.1 q = k) (hkc : (k = 5 ∧ ci = 0) ∨ (k = 6 ∧ ci = 6) ∨ (k = 7 ∧ ci = 4)) (hb : S.2.2.1 b = 10 + ci) (hin : vp_in i (S.2.2.2.1 q)) (hd : decode M.2.1 pc = .ok (.aastore, 1)) (kk : EvW G M d N Z (pc + 1) lv st (S_ref S q i.toNatClampNeg b) μ K) : EvW G M d N Z pc lv (.ref b :: .int i :: .ref q :: st) S μ K := by
  intro p l e R s m args below meth c H locs n0 z0 lsA Q C hH hn0 hz0 hN hZ hlo hl fin
  have hq : S.2.2.1 q ≠ 0 := by omega
  have hbz : S.2.2.1 b ≠ 0 := by omega
  have e0 : List.map (cv G) (.ref b :: .int i :: .ref q :: st) = .ref (g_adr G b) :: .int i :: .ref (g_adr G q) :: st.map (cv G) := by
    rw [st_ref (hH.nz hbz)]
    show _ :: _ :: List.map (cv G) (.ref q :: st) = _
    rw [st_ref (hH.nz hq)]
    rfl
  rw [e0]
  have T := C.2.2.2.2.2.2.2.2.2.1.2
  have key : ∃ r : vw_C, vwCl[ci]? = some r ∧ va_RA s (G.2.2.2.1 k) (.object r.1) := by
    rcases hkc with ⟨rfl, rfl⟩ | ⟨rfl, rfl⟩ | ⟨rfl, rfl⟩
    · exact ⟨_, rfl, (T 4 (G.2.2.2.1 5, .object RX0) rfl).2⟩
    · exact ⟨_, rfl, (T 5 (G.2.2.2.1 6, .object RX6) rfl).2⟩
    · exact ⟨_, rfl, (T 6 (G.2.2.2.1 7, .object RX4) rfl).2⟩
  obtain ⟨r, hr, kA, comp, k1, k2, k3, -⟩ := key
  have hcls := (C.2.2.2.2.2.2.2.2.2.1.1 ci r hr).2
  have hcomp : comp = G.2.2.1.1 ci := Option.some.inj (k3.symm.trans hcls.1)
  subst hcomp
  obtain ⟨kC, hkC, -⟩ := hcls.2
  obtain ⟨r', hr', cellV, g1, g2, g3, -⟩ := hH.obj hb
  refine W.aast C.1 C.2.1 (hH.refs hk (by omega) (by omega)) (fun q h => by cases h) (fun h => by cases h) k1 k2 rfl hkC ⟨fun z => hin (Or.inl z), by rw [arrV_size]; exact va_in_lt hin⟩ g1 (fun q h => by rw [g3] at h; cases h) (by rw [g2]; exact hkC) (by rw [g2]; exact va_assign hcls) rfl rfl hd fun H1 e1 z1 oq => ?_
  refine kk p l e R s m args below meth c H1 _ n0 z0 lsA Q C (hH.put (a := q) hq z1 oq rfl rfl rfl (fun _ _ _ => rfl) (fun b' hb' k' => if_neg (fun z => hb' z.1)) ?_) hn0 hz0 hN hZ (g_lo hH hq hlo) hl fin
  show g_cell G (S.1, S.2.1, S.2.2.1, S.2.2.2.1, rset S.2.2.2.2 q i.toNatClampNeg b) μ q H1
  unfold g_cell
  rw [if_neg (show ¬ 10 ≤ S.2.2.1 q by omega), if_neg (show ¬ S.2.2.1 q ≤ 3 by omega), e1]
  show _ = some (arrV (G.2.2.2.1 (S.2.2.1 q)) (S.2.2.2.1 q) (fun j => g_rf G (rset S.2.2.2.2 q i.toNatClampNeg b q j)))
  rw [hk, arrV_store]
  congr 2
  funext j'
  by_cases ej : j' = i.toNatClampNeg
  · subst ej
    simp [updV, rset, hH.adr hbz]
  · simp [updV, rset, ej]
end EVA
