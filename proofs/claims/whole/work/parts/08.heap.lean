/-! ===== the heap of the abstract machine: reading, writing ===== -/
/-- one place of the ints changed -/
def mset (μ : Mem) (a k : Nat) (x : Int32) : Mem := fun a' k' => if a' = a ∧ k' = k then x else μ a' k'
/-- one place of the references changed -/
def rset (ρ : Nat → Nat → Nat) (a k r : Nat) : Nat → Nat → Nat := fun a' k' => if a' = a ∧ k' = k then r else ρ a' k'
def S_ref (S : HS) (a k r : Nat) : HS := (S.1, S.2.1, S.2.2.1, S.2.2.2.1, rset S.2.2.2.2 a k r)
theorem mset_same {μ : Mem} {a k : Nat} {x : Int32} : mset μ a k x a k = x := if_pos ⟨rfl, rfl⟩
theorem mset_other {μ : Mem} {a k a' k' : Nat} {x : Int32} (h : ¬ (a' = a ∧ k' = k)) : mset μ a k x a' k' = μ a' k' := if_neg h
section HP
variable {G : GW} {S S' : HS} {μ μ' : Mem} {H H' : Heap} {a : Nat}
theorem g_adr_hi (h : 10 ≤ a) : g_adr G a = G.1.size + (a - 10) := if_neg (by omega)
theorem g_adr_inj {b : Nat} (h1 : 10 ≤ a) (h2 : 10 ≤ b) (h : g_adr G a = g_adr G b) : a = b := by
  rw [g_adr_hi h1, g_adr_hi h2] at h
  omega
theorem g_cell.kept (h : g_cell G S μ a H) (hq : H'[g_adr G a]? = H[g_adr G a]?) (hk : S'.2.2.1 a = S.2.2.1 a) (hl : S'.2.2.2.1 a = S.2.2.2.1 a) (hm : ∀ k, μ' a k = μ a k) (hr : ∀ k, S'.2.2.2.2 a k = S.2.2.2.2 a k) : g_cell G S' μ' a H' := by
  unfold g_cell at h ⊢
  rw [hk, hl, hq]
  have e1 : μ' a = μ a := funext hm
  have e2 : S'.2.2.2.2 a = S.2.2.2.2 a := funext hr
  rw [e1, e2]
  split
  · rename_i h10
    rw [if_pos h10] at h
    obtain ⟨r, h1, h2⟩ := h
    exact ⟨r, h1, h2.kept hq⟩
  · rename_i h10
    rw [if_neg h10] at h
    exact h
theorem HR.put (h : HR G S μ H) (ha : S.2.2.1 a ≠ 0) (hsz : H'.size = H.size) (ho : ∀ q : Nat, q ≠ g_adr G a → H'[q]? = H[q]?)
    (h1 : S'.1 = S.1) (h2 : S'.2.2.1 = S.2.2.1) (h3 : S'.2.2.2.1 = S.2.2.2.1) (hm : ∀ b, b ≠ a → ∀ k, μ' b k = μ b k) (hr : ∀ b, b ≠ a → ∀ k, S'.2.2.2.2 b k = S.2.2.2.2 b k)
    (hc : g_cell G S' μ' a H') : HR G S' μ' H' := by
  obtain ⟨a1, a2, a3, a4, a5⟩ := h
  have h10 := (a4 a ha).1
  refine ⟨by rw [h1]; exact a1, by rw [h1, hsz]; exact a2, fun q hq => ?_, fun b hb => by rw [h1]; exact a4 b (by rw [← h2]; exact hb), fun b hb => ?_⟩
  · rw [ho q (by rw [g_adr_hi h10]; omega)]
    exact a3 q hq
  · rw [h2] at hb
    by_cases e : b = a
    · subst e
      exact hc
    · exact (a5 b hb).kept (ho _ (fun z => e (g_adr_inj (a4 b hb).1 h10 z))) (by rw [h2]) (by rw [h3]) (hm b e) (hr b e)
theorem HR.nz (h : HR G S μ H) (ha : S.2.2.1 a ≠ 0) : a ≠ 0 := by
  have := (h.2.2.2.1 a ha).1
  omega
theorem HR.adr (h : HR G S μ H) (ha : S.2.2.1 a ≠ 0) : g_rf G a = .ref (g_adr G a) := if_neg (h.nz ha)
theorem HR.obj {ci : Nat} (h : HR G S μ H) (hk : S.2.2.1 a = 10 + ci) : ∃ r : vw_C, vwCl[ci]? = some r ∧ t_OB (g_adr G a) (G.2.2.1.1 ci) r.2.2 (G.2.2.1.2 ci) H (fun k => g_fv G ci k (μ a k) (S.2.2.2.2 a k)) := by
  have h5 := h.2.2.2.2 a (by omega)
  unfold g_cell at h5
  rw [if_pos (by omega), hk, Nat.add_sub_cancel_left] at h5
  exact h5
theorem HR.ints {k : Nat} (h : HR G S μ H) (hk : S.2.2.1 a = k) (h1 : 1 ≤ k) (h3 : k ≤ 3) : H[g_adr G a]? = some (arrV (G.2.2.2.1 k) (S.2.2.2.1 a) (fun j => .int (μ a j))) := by
  have h5 := h.2.2.2.2 a (by omega)
  unfold g_cell at h5
  rw [if_neg (by omega), if_pos (by omega), hk] at h5
  exact h5
theorem HR.refs {k : Nat} (h : HR G S μ H) (hk : S.2.2.1 a = k) (h1 : 4 ≤ k) (h3 : k ≤ 7) : H[g_adr G a]? = some (arrV (G.2.2.2.1 k) (S.2.2.2.1 a) (fun j => g_rf G (S.2.2.2.2 a j))) := by
  have h5 := h.2.2.2.2 a (by omega)
  unfold g_cell at h5
  rw [if_neg (by omega), if_neg (by omega), hk] at h5
  exact h5
end HP
/-- what an instruction's field entry links to: the field k of the class ci -/
def FL (own : String) (idx ci k : Nat) : Prop := ∃ r : vw_C, vwCl[ci]? = some r ∧ k < r.2.2 ∧ Cond.fieldLink own idx (r.2.1 k).1 (r.2.1 k).2.1 (r.2.1 k).2.2.1 ∈ TW
/-- the words of a class -/
def CL (ci : Nat) (r : vw_C) : Prop := vwCl[ci]? = some r ∧ (∀ w ∈ u_ws r.1 r.2.1 r.2.2, w ∈ TW) ∧ (∀ k, k < r.2.2 → parseFieldDescriptor (r.2.1 k).2.2.1 = some (c_ty ci k)) ∧ ∀ a, a < r.2.2 → ∀ b, b < r.2.2 → a ≠ b → (r.2.1 a).2.1 ≠ (r.2.1 b).2.1
theorem TW_sub {ws : List Cond} (hg : ws.all goodWord = true) (h : ∀ w ∈ ws, w ∈ lw_tbl) : ∀ w ∈ ws, w ∈ TW := fun w hw => List.mem_filter.mpr ⟨h w hw, List.all_eq_true.mp hg w hw⟩
theorem ti_0 : ∀ w ∈ u_ws RX0 TX0 9, w ∈ lw_tbl := by decide +kernel
theorem ti_1 : ∀ w ∈ u_ws RX1 TX1 6, w ∈ lw_tbl := by decide +kernel
theorem ti_2 : ∀ w ∈ u_ws RX2 TX2 3, w ∈ lw_tbl := by decide +kernel
theorem ti_3 : ∀ w ∈ u_ws RX3 TX3 8, w ∈ lw_tbl := by decide +kernel
theorem ti_4 : ∀ w ∈ u_ws RX4 TX4 3, w ∈ lw_tbl := by decide +kernel
theorem ti_5 : ∀ w ∈ u_ws RX5 TX5 5, w ∈ lw_tbl := by decide +kernel
theorem ti_6 : ∀ w ∈ u_ws RX6 TX6 4, w ∈ lw_tbl := by decide +kernel
theorem ti_7 : ∀ w ∈ u_ws RX7 TX7 13, w ∈ lw_tbl := by decide +kernel
theorem ti_8 : ∀ w ∈ u_ws RX8 TX8 49, w ∈ lw_tbl := by decide +kernel
theorem CL_0 : CL 0 (RX0, TX0, 9) := ⟨rfl, TW_sub (by decide +kernel) ti_0, tyX0_ok, nmX0⟩
theorem CL_1 : CL 1 (RX1, TX1, 6) := ⟨rfl, TW_sub (by decide +kernel) ti_1, tyX1_ok, nmX1⟩
theorem CL_2 : CL 2 (RX2, TX2, 3) := ⟨rfl, TW_sub (by decide +kernel) ti_2, tyX2_ok, nmX2⟩
theorem CL_3 : CL 3 (RX3, TX3, 8) := ⟨rfl, TW_sub (by decide +kernel) ti_3, tyX3_ok, nmX3⟩
theorem CL_4 : CL 4 (RX4, TX4, 3) := ⟨rfl, TW_sub (by decide +kernel) ti_4, tyX4_ok, nmX4⟩
theorem CL_5 : CL 5 (RX5, TX5, 5) := ⟨rfl, TW_sub (by decide +kernel) ti_5, tyX5_ok, nmX5⟩
theorem CL_6 : CL 6 (RX6, TX6, 4) := ⟨rfl, TW_sub (by decide +kernel) ti_6, tyX6_ok, nmX6⟩
theorem CL_7 : CL 7 (RX7, TX7, 13) := ⟨rfl, TW_sub (by decide +kernel) ti_7, tyX7_ok, nmX7⟩
theorem CL_8 : CL 8 (RX8, TX8, 49) := ⟨rfl, TW_sub (by decide +kernel) ti_8, tyX8_ok, nmX8⟩
theorem CL_of {ci : Nat} {r : vw_C} (h : vwCl[ci]? = some r) : CL ci r := by
  match ci, h with
  | 0, h => cases h; exact CL_0
  | 1, h => cases h; exact CL_1
  | 2, h => cases h; exact CL_2
  | 3, h => cases h; exact CL_3
  | 4, h => cases h; exact CL_4
  | 5, h => cases h; exact CL_5
  | 6, h => cases h; exact CL_6
  | 7, h => cases h; exact CL_7
  | 8, h => cases h; exact CL_8
  | n + 9, h => simp [vwCl] at h
section EVH
variable {G : GW} {M : MK} {d N Z pc : Nat} {lv : List (Nat × Value)} {st : List Value} {S : HS} {μ : Mem} {K : Option Value → HS → Mem → Prop}
theorem ev_getI {a idx ci k : Nat} (hF : FL M.1.cls idx ci k) (hty : (c_ty ci k).isReference = false) (hk : S.2.2.1 a = 10 + ci) (hd : decode M.2.1 pc = .ok (.getfield idx, 3)) (kk : EvW G M d N Z (pc + 3) lv (.int (μ a k) :: st) S μ K) : EvW G M d N Z pc lv (.ref a :: st) S μ K := by
  intro p l e R s m args below meth c H locs n0 z0 lsA Q C hH hn0 hz0 hN hZ hlo hl fin
  have kw := kk p l e R s m args below meth c H locs n0 z0 lsA Q C hH hn0 hz0 hN hZ hlo hl fin
  obtain ⟨c1, c2, c3, c4, c5, c6, c7, c8, c9, c10, c11⟩ := C
  obtain ⟨r, hr, hkr, hlk⟩ := hF
  obtain ⟨r', hr', cell, q1, q2, q3, q4⟩ := hH.obj hk
  cases hr.symm.trans hr'
  obtain ⟨hc, hws, -, -⟩ := CL_of hr
  obtain ⟨hS, hfc, kC, hkC, hkind⟩ := c10.1 ci _ hc
  obtain ⟨cf, kf, fi, f, hi, hsl⟩ := hS k hkr
  rw [st_ref (hH.nz (by omega))]
  refine W.getf c1 c2 c4 (c5 _ hlk) hi (u_facts hfc hkC (u_lays c5 hws hkr) hi).1 q1 (by rw [q3]; exact fun h => by cases h) (v := .int (μ a k)) ?_ rfl rfl hd kw
  rw [hsl, q4 k hkr]
  simp [g_fv, hty]
theorem ev_getR {a idx ci k : Nat} (hF : FL M.1.cls idx ci k) (hty : (c_ty ci k).isReference = true) (hk : S.2.2.1 a = 10 + ci) (hd : decode M.2.1 pc = .ok (.getfield idx, 3)) (kk : EvW G M d N Z (pc + 3) lv (.ref (S.2.2.2.2 a k) :: st) S μ K) : EvW G M d N Z pc lv (.ref a :: st) S μ K := by
  intro p l e R s m args below meth c H locs n0 z0 lsA Q C hH hn0 hz0 hN hZ hlo hl fin
  have kw := kk p l e R s m args below meth c H locs n0 z0 lsA Q C hH hn0 hz0 hN hZ hlo hl fin
  obtain ⟨c1, c2, c3, c4, c5, c6, c7, c8, c9, c10, c11⟩ := C
  obtain ⟨r, hr, hkr, hlk⟩ := hF
  obtain ⟨r', hr', cell, q1, q2, q3, q4⟩ := hH.obj hk
  cases hr.symm.trans hr'
  obtain ⟨hc, hws, -, -⟩ := CL_of hr
  obtain ⟨hS, hfc, kC, hkC, hkind⟩ := c10.1 ci _ hc
  obtain ⟨cf, kf, fi, f, hi, hsl⟩ := hS k hkr
  rw [st_ref (hH.nz (by omega))]
  refine W.getf c1 c2 c4 (c5 _ hlk) hi (u_facts hfc hkC (u_lays c5 hws hkr) hi).1 q1 (by rw [q3]; exact fun h => by cases h) (v := g_rf G (S.2.2.2.2 a k)) ?_ rfl rfl hd kw
  rw [hsl, q4 k hkr]
  simp [g_fv, hty]
/-- writing an int field (not final) -/
theorem ev_putI {a idx ci k : Nat} {x : Int32} (hF : FL M.1.cls idx ci k) (hty : narrow (c_ty ci k) (.int x) = .int x ∧ fits (c_ty ci k) (.int x) = true ∧ (c_ty ci k).isReference = false) (hfin : ∀ r, vwCl[ci]? = some r → (r.2.1 k).2.2.2 = false) (hk : S.2.2.1 a = 10 + ci) (hd : decode M.2.1 pc = .ok (.putfield idx, 3)) (kk : EvW G M d N Z (pc + 3) lv st S (mset μ a k x) K) : EvW G M d N Z pc lv (.int x :: .ref a :: st) S μ K := by
  intro p l e R s m args below meth c H locs n0 z0 lsA Q C hH hn0 hz0 hN hZ hlo hl fin
  have C0 := C
  obtain ⟨c1, c2, c3, c4, c5, c6, c7, c8, c9, c10, c11⟩ := C
  obtain ⟨r, hr, hkr, hlk⟩ := hF
  obtain ⟨r', hr', cell, q1, q2, q3, q4⟩ := hH.obj hk
  cases hr.symm.trans hr'
  obtain ⟨hc, hws, hpd, hnm⟩ := CL_of hr
  have hap := va_apart (own := M.1.cls) c5 hws (c_ty ci) hpd hnm c10 hc
  obtain ⟨hS, hfc, kC, hkC, hkind⟩ := c10.1 ci _ hc
  obtain ⟨cf, kf, fi, f, hi, hsl⟩ := hS k hkr
  have hlay := c5 _ (hws _ (u_in_lay hkr))
  unfold u_lay at hlay
  rw [if_neg (by rw [hfin r hr]; decide)] at hlay
  have hst := (u_facts hfc hkC (u_lays c5 hws hkr) hi).1
  have h6 := u_store hfc hkC hkind hlay hi (hpd k hkr) hty.1 hty.2.1
  have e0 : List.map (cv G) (.int x :: .ref a :: st) = .int x :: .ref (g_adr G a) :: st.map (cv G) := by
    show _ :: List.map (cv G) (.ref a :: st) = _
    rw [st_ref (hH.nz (by omega))]
    rfl
  rw [e0]
  refine W.putK c1 c2 (f := f) ⟨c4, c5 _ hlk, ⟨_, _, _, hi⟩, hst⟩ (by rw [q2]; exact h6) q1 q3 (by rw [hsl]; exact k2_hasslot (q4 k hkr)) rfl rfl hd fun H' e1 e2 e3 => ?_
  rw [hsl] at e1 ⊢
  refine kk p l e R s m args below meth c H' _ n0 z0 lsA Q C0 (hH.put (a := a) (by omega) e2 e3 rfl rfl rfl (fun b hb k' => mset_other (fun z => hb z.1)) (fun _ _ _ => rfl) ?_) hn0 hz0 hN hZ ?_ hl fin
  · unfold g_cell
    rw [if_pos (by omega), hk, Nat.add_sub_cancel_left]
    refine ⟨r, hr, t_OB.to (V := updV (fun k => g_fv G ci k (μ a k) (S.2.2.2.2 a k)) k (.int x)) ⟨_, e1, q2, q3, t_set q4 hap hkr _⟩ (fun j _ => ?_)⟩
    by_cases ej : j = k
    · subst ej
      simp [updV, g_fv, mset, hty.2.2]
    · simp [updV, g_fv, mset, ej]
  · intro q hq
    rcases List.mem_append.mp hq with h | h
    · exact hlo q h
    · rw [List.mem_singleton.mp h]
      show G.1.size ≤ g_adr G a
      rw [g_adr_hi (hH.2.2.2.1 a (by omega)).1]
      omega
/-- writing a final reference field, in a constructor -/
theorem ev_putR {a b idx ci k : Nat} (hF : FL M.1.cls idx ci k) (hty : (c_ty ci k).isReference = true) (hfin : ∀ r, vwCl[ci]? = some r → (r.2.1 k).2.2.2 = true ∧ (r.2.1 k).1 = M.1.cls) (hin : M.1.name = "<init>") (hk : S.2.2.1 a = 10 + ci) (hb : S.2.2.1 b ≠ 0) (hd : decode M.2.1 pc = .ok (.putfield idx, 3)) (kk : EvW G M d N Z (pc + 3) lv st (S_ref S a k b) μ K) : EvW G M d N Z pc lv (.ref b :: .ref a :: st) S μ K := by
  intro p l e R s m args below meth c H locs n0 z0 lsA Q C hH hn0 hz0 hN hZ hlo hl fin
  have C0 := C
  obtain ⟨c1, c2, c3, c4, c5, c6, c7, c8, c9, c10, c11⟩ := C
  obtain ⟨r, hr, hkr, hlk⟩ := hF
  obtain ⟨r', hr', cell, q1, q2, q3, q4⟩ := hH.obj hk
  cases hr.symm.trans hr'
  obtain ⟨hc, hws, hpd, hnm⟩ := CL_of hr
  have hap := va_apart (own := M.1.cls) c5 hws (c_ty ci) hpd hnm c10 hc
  obtain ⟨hS, hfc, kC, hkC, hkind⟩ := c10.1 ci _ hc
  obtain ⟨cf, kf, fi, f, hi, hsl⟩ := hS k hkr
  have hlay := c5 _ (hws _ (u_in_lay hkr))
  unfold u_lay at hlay
  rw [if_pos (hfin r hr).1] at hlay
  have hst := (u_facts hfc hkC (u_lays c5 hws hkr) hi).1
  have hcf : m.cls = cf := by
    obtain ⟨_, _, c', _, _, _, -, -, hf', -, -, -, hown2, -⟩ := Cond.laysFinal_spec hlay
    have e1 : c' = cf := by have := hi.symm.trans hf'; simp at this; exact this.1.symm
    rw [(hfin r hr).2] at hown2
    rw [← e1]; exact Option.some.inj (c4.symm.trans hown2)
  have hnf : narrow (c_ty ci k) (.ref (g_adr G b)) = .ref (g_adr G b) ∧ fits (c_ty ci k) (.ref (g_adr G b)) = true := by
    generalize c_ty ci k = ty at hty
    cases ty <;> first | (simp [FieldType.isReference] at hty; done) | exact ⟨rfl, rfl⟩
  have h6 := u_fits hfc hkC hkind (Or.inr hlay) hi (hpd k hkr) hnf.1 hnf.2
  have e0 : List.map (cv G) (.ref b :: .ref a :: st) = .ref (g_adr G b) :: .ref (g_adr G a) :: st.map (cv G) := by
    rw [st_ref (hH.nz hb), st_ref (hH.nz (by omega))]
  rw [e0]
  refine W.putFinK c1 c2 c4 (c5 _ hlk) hi hst hcf (c8 hin) (by rw [q2]; exact h6) q1 q3 (by rw [hsl]; exact k2_hasslot (q4 k hkr)) rfl rfl hd fun H' e1 e2 e3 => ?_
  rw [hsl] at e1 ⊢
  refine kk p l e R s m args below meth c H' _ n0 z0 lsA Q C0 (hH.put (a := a) (by omega) e2 e3 rfl rfl rfl (fun _ _ _ => rfl) (fun b' hb k' => if_neg (fun z => hb z.1)) ?_) hn0 hz0 hN hZ ?_ hl fin
  · unfold g_cell
    rw [if_pos (show 10 ≤ (S_ref S a k b).2.2.1 a by show 10 ≤ S.2.2.1 a; omega)]
    show ∃ r : vw_C, vwCl[S.2.2.1 a - 10]? = some r ∧ t_OB (g_adr G a) (G.2.2.1.1 (S.2.2.1 a - 10)) r.2.2 (G.2.2.1.2 (S.2.2.1 a - 10)) H' (fun j => g_fv G (S.2.2.1 a - 10) j (μ a j) (rset S.2.2.2.2 a k b a j))
    rw [hk, Nat.add_sub_cancel_left]
    refine ⟨r, hr, t_OB.to (V := updV (fun k => g_fv G ci k (μ a k) (S.2.2.2.2 a k)) k (.ref (g_adr G b))) ⟨_, e1, q2, q3, t_set q4 hap hkr _⟩ (fun j _ => ?_)⟩
    by_cases ej : j = k
    · subst ej
      simp [updV, g_fv, rset, hty, hH.adr hb]
    · simp [updV, g_fv, rset, ej]
  · intro q hq
    rcases List.mem_append.mp hq with h | h
    · exact hlo q h
    · rw [List.mem_singleton.mp h]
      show G.1.size ≤ g_adr G a
      rw [g_adr_hi (hH.2.2.2.1 a (by omega)).1]
      omega
end EVH
