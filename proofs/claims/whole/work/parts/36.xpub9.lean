/-! ===== the class's public methods: sheets ===== -/
theorem vx_sh {α β μ ν : Mem} (hf : WF α) (h : VX α μ) {s : Nat} (hs : s < 4) (e : ∀ r, (r < 14 ∨ 16 < r) → β r = α r) (n : ∀ a, (a ≠ 74 + 2 * s ∧ a ≠ 75 + 2 * s) → ν a = μ a) (new : ν (74 + 2 * s) 1 = β 14 s ∧ ν (74 + 2 * s) 2 = β 15 s ∧ ∀ k, k < 40 → ν (75 + 2 * s) k = β 16 (40 * s + k)) (old : ∀ t, t < 4 → t ≠ s → β 14 t = α 14 t ∧ β 15 t = α 15 t ∧ ∀ k, k < 40 → β 16 (40 * t + k) = α 16 (40 * t + k)) : VX β ν ∧ keepM μ ν := by
  obtain ⟨⟨vc, vw, vr, vh, vt, vi, vs, vx⟩, vd⟩ := h
  have e0 : ∀ k, k < 5 → β 0 k = α 0 k := fun k _ => by rw [e 0 (by omega)]
  refine ⟨⟨⟨vc.eq e0 (fun k _ _ => by rw [n 10 (by omega)]) (by rw [n 24 (by omega)]), ?_, ?_, ?_, ?_, ?_, ?_, ?_⟩, ?_⟩, fun a ha => n a (by omega)⟩
  · exact vw.eq (e 1 (by omega)) (fun a _ => n (12 + a) (by omega))
  · exact vr.eq (e0 1 (by omega)) (e 2 (by omega)) (e 3 (by omega)) (n 20 (by omega)) (n 21 (by omega))
  · exact vh.eq hf.1 (e0 0 (by omega)) (fun f _ i _ => by rw [e (4 + f) (by omega)]) (fun i _ f _ => by rw [n (43 + i) (by omega)])
  · exact vt.eq (e0 4 (by omega)) (e 10 (by omega)) (n 25 (by omega))
  · exact vi.eq (e 11 (by omega)) (e 12 (by omega)) (e 13 (by omega)) (n 32 (by omega)) (fun a _ => n (34 + a) (by omega)) (n 41 (by omega))
  · intro t ht
    by_cases c : t = s
    · rw [c]; exact new
    · obtain ⟨o1, o2, o3⟩ := old t ht c
      rw [n (74 + 2 * t) (by omega), n (75 + 2 * t) (by omega), o1, o2]
      refine ⟨(vs t ht).1, (vs t ht).2.1, fun k hk => ?_⟩
      rw [o3 k hk]
      exact (vs t ht).2.2 k hk
  · exact vx.eq hf.1 (e0 2 (by omega)) (e 17 (by omega)) (e 18 (by omega)) (fun a _ _ => n a (by omega))
  · exact vd.eq (e0 0 (by omega)) (e0 3 (by omega)) (e 1 (by omega)) (fun f _ => e (4 + f) (by omega)) (e 17 (by omega)) (e 18 (by omega)) hf.1 (fun i _ f _ => by rw [n (43 + i) (by omega)])
theorem wf_sh {α β : Mem} (hf : WF α) {s : Nat} (e : ∀ r, (r < 14 ∨ 16 < r) → β r = α r) (new : (β 14 s = -1 ∨ β 14 s = 0 ∨ β 14 s = 1 ∨ β 14 s = 2) ∧ ∃ z, z ≤ 40 ∧ β 15 s = nI z) (old : ∀ t, t < 4 → t ≠ s → β 14 t = α 14 t ∧ β 15 t = α 15 t) : WF β := by
  obtain ⟨wc, ww, wr, wh, wt, wx, wi, ws⟩ := hf
  refine ⟨wc.eq (fun k _ => by rw [e 0 (by omega)]), ww.eq (e 1 (by omega)), wr.eq (by rw [e 0 (by omega)]) (e 2 (by omega)) (e 3 (by omega)), wh.eq wc (by rw [e 0 (by omega)]) (fun f _ i _ => by rw [e (4 + f) (by omega)]), wt.eq (by rw [e 0 (by omega)]) (e 10 (by omega)), wx.eq (by rw [e 0 (by omega)]) (e 17 (by omega)) (e 18 (by omega)), wi.eq (by unfold aN; rw [e 0 (by omega)]; exact Nat.le_refl _) (by unfold aR; rw [e 0 (by omega)]; exact Nat.le_refl _) (by unfold aX; rw [e 0 (by omega)]; exact Nat.le_refl _) (e 11 (by omega)) (e 12 (by omega)) (e 13 (by omega)), fun t ht => ?_⟩
  by_cases c : t = s
  · rw [c]; exact new
  · rw [(old t ht c).1, (old t ht c).2]
    exact ws t ht
def shA (α : Mem) (s : Nat) (sort size : Int32) (f : Nat → Int32) : Mem := fun r k => if r = 14 ∧ k = s then sort else if r = 15 ∧ k = s then size else if r = 16 ∧ 40 * s ≤ k ∧ k < 40 * s + 40 then f (k - 40 * s) else α r k
theorem shA_row {α : Mem} {s : Nat} {sort size : Int32} {f : Nat → Int32} {r : Nat} (h : r < 14 ∨ 16 < r) : shA α s sort size f r = α r := by
  funext k
  unfold shA
  rw [if_neg (by omega), if_neg (by omega), if_neg (by omega)]
theorem shA_new {α : Mem} {s : Nat} {sort size : Int32} {f : Nat → Int32} : shA α s sort size f 14 s = sort ∧ shA α s sort size f 15 s = size ∧ ∀ k, k < 40 → shA α s sort size f 16 (40 * s + k) = f k := by
  refine ⟨if_pos ⟨rfl, rfl⟩, ?_, fun k hk => ?_⟩
  · unfold shA
    rw [if_neg (by omega), if_pos ⟨rfl, rfl⟩]
  · unfold shA
    rw [if_neg (by omega), if_neg (by omega), if_pos (by omega), Nat.add_sub_cancel_left]
theorem shA_old {α : Mem} {s : Nat} {sort size : Int32} {f : Nat → Int32} {t : Nat} (h : t ≠ s) : shA α s sort size f 14 t = α 14 t ∧ shA α s sort size f 15 t = α 15 t ∧ ∀ k, k < 40 → shA α s sort size f 16 (40 * t + k) = α 16 (40 * t + k) := by
  unfold shA
  refine ⟨?_, ?_, fun k hk => ?_⟩
  · rw [if_neg (by omega), if_neg (by omega), if_neg (by omega)]
  · rw [if_neg (by omega), if_neg (by omega), if_neg (by omega)]
  · rw [if_neg (by omega), if_neg (by omega), if_neg (by omega)]
def sp_sheet (s sort n : Int32) : Int32 := if inB s 0 3 = true then (if inB sort (-1) 2 = true then (if sort = -1 then 1 else if n ≤ 40 then (if 0 ≤ n then 1 else -14) else -2) else -2) else -2
def sq_sheet (α : Mem) (s sort n : Int32) : Mem := if inB s 0 3 = true ∧ inB sort (-1) 2 = true then (if sort = -1 then shA α s.toNatClampNeg (-1) 0 (fun _ => 0) else if n ≤ 40 ∧ 0 ≤ n then shA α s.toNatClampNeg sort n (fun _ => 0) else α) else α
theorem sort_in {x : Int32} (h : inB x (-1) 2 = true) : x = -1 ∨ x = 0 ∨ x = 1 ∨ x = 2 := by
  rw [inB_t, i_le, i_le] at h
  have e0 : (-1 : Int32).toInt = -1 := by decide
  have e1 : (2 : Int32).toInt = 2 := by decide
  have e2 : (0 : Int32).toInt = 0 := by decide
  have e3 : (1 : Int32).toInt = 1 := by decide
  rw [i_eq, i_eq, i_eq, i_eq, e0, e1, e2, e3]
  rw [e0, e1] at h
  omega
theorem n40 {n : Int32} (h1 : n ≤ 40) (h2 : 0 ≤ n) : ∃ z, z ≤ 40 ∧ n = nI z := by
  have e0 : (0 : Int32).toInt = 0 := by decide
  have e1 : (40 : Int32).toInt = 40 := by decide
  rw [i_le, e1] at h1
  rw [i_le, e0] at h2
  refine ⟨n.toInt.toNat, by omega, ?_⟩
  rw [i_eq, nI_toInt (by omega)]
  omega
theorem wf_sheet {α : Mem} (hf : WF α) (s sort n : Int32) : WF (sq_sheet α s sort n) := by
  unfold sq_sheet
  split
  · rename_i c
    split
    · refine wf_sh (s := s.toNatClampNeg) hf (fun r hr => shA_row hr) ?_ (fun t _ ht => ⟨(shA_old ht).1, (shA_old ht).2.1⟩)
      rw [shA_new.1, shA_new.2.1]
      exact ⟨Or.inl rfl, 0, by omega, rfl⟩
    · split
      · rename_i d e
        refine wf_sh (s := s.toNatClampNeg) hf (fun r hr => shA_row hr) ?_ (fun t _ ht => ⟨(shA_old ht).1, (shA_old ht).2.1⟩)
        rw [shA_new.1, shA_new.2.1]
        exact ⟨sort_in c.2, n40 e.1 e.2⟩
      · exact hf
  · exact hf
theorem becomeS_at {μ : Mem} {o : Nat} {sort size : Int32} : becomeS μ o sort size o 1 = sort ∧ becomeS μ o sort size o 2 = imax 0 (imin size 40) ∧ (∀ k, k < 40 → becomeS μ o sort size (o + 1) k = 0) ∧ ∀ a, a ≠ o ∧ a ≠ o + 1 → becomeS μ o sort size a = μ a := by
  unfold becomeS
  refine ⟨?_, ?_, fun k hk => ?_, fun a ha => ?_⟩
  · rw [mrow_ne _ _ (by omega), mset_other (by omega), mset_same]
  · rw [mrow_ne _ _ (by omega), mset_same]
  · rw [mrow_same, if_pos hk]
  · rw [mrow_ne _ _ (by omega), mset_ne (by omega), mset_ne (by omega)]
theorem clamp40 {z : Nat} (h : z ≤ 40) : imax 0 (imin (nI z) 40) = nI z := by
  have : ∀ z, z < 41 → imax 0 (imin (nI z) 40) = nI z := by decide
  exact this z (by omega)
theorem vx_become {α μ : Mem} (hf : WF α) (h : VX α μ) {s z : Nat} (hs : s < 4) (hz : z ≤ 40) (sort : Int32) : VX (shA α s sort (nI z) (fun _ => 0)) (becomeS μ (74 + 2 * s) sort (nI z)) ∧ keepM μ (becomeS μ (74 + 2 * s) sort (nI z)) := by
  obtain ⟨b1, b2, b3, b4⟩ := becomeS_at (μ := μ) (o := 74 + 2 * s) (sort := sort) (size := nI z)
  refine vx_sh hf h hs (fun r hr => shA_row hr) (fun a ha => b4 a (by omega)) ?_ (fun t _ ht => shA_old ht)
  obtain ⟨n1, n2, n3⟩ := shA_new (α := α) (s := s) (sort := sort) (size := nI z) (f := fun _ => 0)
  rw [n1, n2, b1, b2, clamp40 hz]
  refine ⟨rfl, rfl, fun k hk => ?_⟩
  rw [n3 k hk, show 75 + 2 * s = 74 + 2 * s + 1 by omega]
  exact b3 k hk
theorem sg_X7_sheet_0 {G : GW} {K : Option Value → Mem → Prop} {μ : Mem} {x1 x2 x3 : Int32}  (h : (((inB x1 0 3) = false) → K (some (.int (-2))) μ) ∧ (((inB x1 0 3) = true) → (((inB x2 ((-1) : Int32) (2 : Int32)) = true) → ((¬ x2 = (-1)) → ((x3 ≤ 40) → ((0 ≤ x3) → (vp_in x1 4) ∧ K (some (.int 1)) (becomeS μ (74 + 2 * x1.toNatClampNeg) x2 x3)) ∧ ((¬ (0 ≤ x3)) → K (some (.int (-14))) μ)) ∧ ((¬ (x3 ≤ 40)) → K (some (.int (-2))) μ)) ∧ ((x2 = (-1)) → (vp_in x1 4) ∧ K (some (.int 1)) (becomeS μ (74 + 2 * x1.toNatClampNeg) x2 (0 : Int32)))) ∧ (((inB x2 ((-1) : Int32) (2 : Int32)) = false) → K (some (.int (-2))) μ))) : Ev2 G mX7_sheet 3 0 [(0, .ref 10), (1, .int x1), (2, .int x2), (3, .int x3)] [] μ K := by
  refine ev_iload_n dX7_sheet_0 1 rfl ?_
  refine e2_callS (w := .int (bi (inB x1 0 3))) (μ1 := μ) (as := [.int x1]) (st := []) ok_X7_isSheet sv_X7_isSheet ml_7_229 dX7_sheet_1 rfl rfl (Nat.le_of_ble_eq_true rfl) (Nat.le_of_ble_eq_true rfl) (by decide) (ct_X7_isSheet (x1) μ) ?_
  refine ev_ifeq_bi (tgt := 16) dX7_sheet_4 rfl (fun c1 => ?_) (fun c1 => ?_)
  · have h2 := h.1 c1
    refine ev_bipush (v := (-2)) dX7_sheet_16 rfl ?_
    exact ev_ireturn dX7_sheet_18 rfl True.intro rfl rfl ⟨rfl, h2⟩
  · have h3 := h.2 c1
    refine ev_iload_n dX7_sheet_7 2 rfl ?_
    refine ev_iconst (v := (-1)) dX7_sheet_8 rfl ?_
    refine ev_iconst (v := 2) dX7_sheet_9 rfl ?_
    refine e2_callS (w := .int (bi (inB x2 ((-1) : Int32) (2 : Int32)))) (μ1 := μ) (as := [.int x2, .int (-1), .int 2]) (st := []) ok_X7_isWithin sv_X7_isWithin ml_7_86 dX7_sheet_10 rfl rfl (Nat.le_of_ble_eq_true rfl) (Nat.le_of_ble_eq_true rfl) (by decide) (ct_X7_isWithin (x2) ((-1)) (2) μ) ?_
    refine ev_ifne_bi (tgt := 19) dX7_sheet_13 rfl (fun c4 => ?_) (fun c4 => ?_)
    · have h5 := h3.1 c4
      refine ev_iload_n dX7_sheet_19 2 rfl ?_
      refine ev_iconst (v := (-1)) dX7_sheet_20 rfl ?_
      refine ev_icmp_ne (tgt := 37) dX7_sheet_21 rfl (fun c7 => ?_) (fun c7 => ?_)
      · have h8 := h5.1 c7
        refine ev_iload_n dX7_sheet_37 3 rfl ?_
        refine ev_bipush (v := 40) dX7_sheet_38 rfl ?_
        refine ev_icmp_le (tgt := 46) dX7_sheet_40 rfl (fun c10 => ?_) (fun c10 => ?_)
        · have h11 := h8.1 c10
          refine ev_iload_n dX7_sheet_46 3 rfl ?_
          refine ev_if_ge (tgt := 53) dX7_sheet_47 rfl (fun c13 => ?_) (fun c13 => ?_)
          · have h14 := h11.1 c13
            refine ev_aload_n dX7_sheet_53 0 rfl (by decide) ?_
            refine ev_getR' fl_7_56 rfl kd_10 rf_10_8 dX7_sheet_54 ?_
            refine ev_iload_n dX7_sheet_57 1 rfl ?_
            have p16 := h14.1
            have h17 := h14.2
            refine ev_aaload' (k := 7) kd_42 (by omega) ln_42 p16 (raS p16) dX7_sheet_58 ?_
            refine ev_iload_n dX7_sheet_59 2 rfl ?_
            refine ev_iload_n dX7_sheet_60 3 rfl ?_
            refine e2_callVv (μ1 := (becomeS μ (74 + 2 * x1.toNatClampNeg) x2 x3)) (a := (74 + 2 * x1.toNatClampNeg)) (as := [.int x2, .int x3]) (st := []) ok_X4_become vi_X4_become ml_7_253 hcl_4 (kdSh (isS p16)) dX7_sheet_61 rfl rfl (Nat.le_of_ble_eq_true rfl) (Nat.le_of_ble_eq_true rfl) (by decide) (ct_X4_become (74 + 2 * x1.toNatClampNeg) (isS p16) (x2) (x3) μ) ?_
            refine ev_iconst (v := 1) dX7_sheet_64 rfl ?_
            exact ev_ireturn dX7_sheet_65 rfl True.intro rfl rfl ⟨rfl, h17⟩
          · have h15 := h11.2 c13
            refine ev_bipush (v := (-14)) dX7_sheet_50 rfl ?_
            exact ev_ireturn dX7_sheet_52 rfl True.intro rfl rfl ⟨rfl, h15⟩
        · have h12 := h8.2 c10
          refine ev_bipush (v := (-2)) dX7_sheet_43 rfl ?_
          exact ev_ireturn dX7_sheet_45 rfl True.intro rfl rfl ⟨rfl, h12⟩
      · have h9 := h5.2 c7
        refine ev_aload_n dX7_sheet_24 0 rfl (by decide) ?_
        refine ev_getR' fl_7_56 rfl kd_10 rf_10_8 dX7_sheet_25 ?_
        refine ev_iload_n dX7_sheet_28 1 rfl ?_
        have p18 := h9.1
        have h19 := h9.2
        refine ev_aaload' (k := 7) kd_42 (by omega) ln_42 p18 (raS p18) dX7_sheet_29 ?_
        refine ev_iload_n dX7_sheet_30 2 rfl ?_
        refine ev_iconst (v := 0) dX7_sheet_31 rfl ?_
        refine e2_callVv (μ1 := (becomeS μ (74 + 2 * x1.toNatClampNeg) x2 (0 : Int32))) (a := (74 + 2 * x1.toNatClampNeg)) (as := [.int x2, .int 0]) (st := []) ok_X4_become vi_X4_become ml_7_253 hcl_4 (kdSh (isS p18)) dX7_sheet_32 rfl rfl (Nat.le_of_ble_eq_true rfl) (Nat.le_of_ble_eq_true rfl) (by decide) (ct_X4_become (74 + 2 * x1.toNatClampNeg) (isS p18) (x2) (0) μ) ?_
        refine ev_iconst (v := 1) dX7_sheet_35 rfl ?_
        exact ev_ireturn dX7_sheet_36 rfl True.intro rfl rfl ⟨rfl, h19⟩
    · have h6 := h3.2 c4
      refine ev_bipush (v := (-2)) dX7_sheet_16 rfl ?_
      exact ev_ireturn dX7_sheet_18 rfl True.intro rfl rfl ⟨rfl, h6⟩
theorem pb_X7_sheet {G : GW} {α μ : Mem} (hf : WF α) (h : VX α μ) (x1 x2 x3 : Int32) : pubX G mX7_sheet 3 [(0, .ref 10), (1, .int x1), (2, .int x2), (3, .int x3)] α μ (.int (sp_sheet x1 x2 x3)) (sq_sheet α x1 x2 x3) := by
  have hk := keepM.rf μ
  refine sg_X7_sheet_0 ⟨fun c => ?_, fun c => ⟨fun d => ⟨fun e => ⟨fun f => ⟨fun g => ?_, fun g => ?_⟩, fun f => ?_⟩, fun e => ?_⟩, fun d => ?_⟩⟩
  · unfold sp_sheet sq_sheet
    rw [if_neg (by rw [c]; decide), if_neg (by rw [c]; simp)]
    exact ⟨rfl, h, hk⟩
  · unfold sp_sheet sq_sheet
    rw [if_pos c, if_pos d, if_neg e, if_pos f, if_pos g, if_pos ⟨c, d⟩, if_neg e, if_pos ⟨f, g⟩]
    refine ⟨vp4 c, ?_⟩
    obtain ⟨s, hs, rfl⟩ := inB_nI (m := 3) (by omega) c
    obtain ⟨z, hz, rfl⟩ := n40 f g
    rw [ix_nI (i := s) (by omega)]
    exact ⟨rfl, vx_become hf h (by omega) hz x2⟩
  · unfold sp_sheet sq_sheet
    rw [if_pos c, if_pos d, if_neg e, if_pos f, if_neg g, if_pos ⟨c, d⟩, if_neg e, if_neg (fun q => g q.2)]
    exact ⟨rfl, h, hk⟩
  · unfold sp_sheet sq_sheet
    rw [if_pos c, if_pos d, if_neg e, if_neg f, if_pos ⟨c, d⟩, if_neg e, if_neg (fun q => f q.1)]
    exact ⟨rfl, h, hk⟩
  · unfold sp_sheet sq_sheet
    rw [if_pos c, if_pos d, if_pos e, if_pos ⟨c, d⟩, if_pos e, e]
    refine ⟨vp4 c, ?_⟩
    obtain ⟨s, hs, rfl⟩ := inB_nI (m := 3) (by omega) c
    rw [ix_nI (i := s) (by omega)]
    exact ⟨rfl, vx_become hf h (z := 0) (by omega) (by omega) (-1)⟩
  · unfold sp_sheet sq_sheet
    rw [if_pos c, if_neg (by rw [d]; decide), if_neg (by rw [d]; simp)]
    exact ⟨rfl, h, hk⟩
/-! cell -/
def sp_cell (α : Mem) (s i : Int32) : Int32 := if inB s 0 3 = true then (if α 14 s.toNatClampNeg = -1 then -11 else if holdsB (α 15 s.toNatClampNeg) i 1 = true then 1 else -12) else -2
def sq_cell (α : Mem) (s i v : Int32) : Mem := if inB s 0 3 = true ∧ ¬ α 14 s.toNatClampNeg = -1 ∧ holdsB (α 15 s.toNatClampNeg) i 1 = true then mset α 16 (40 * s.toNatClampNeg + i.toNatClampNeg) (narF (α 14 s.toNatClampNeg) v) else α
theorem wf_put {α : Mem} (hf : WF α) {k : Nat} {v : Int32} {s : Nat} (hs : s < 4) : WF (mset α 16 k v) := wf_sh (s := s) hf (fun r hr => mset_ne (by omega)) (by rw [mset_ne (by omega), mset_ne (by omega)]; exact hf.2.2.2.2.2.2.2 s hs) (fun t _ _ => by rw [mset_ne (by omega), mset_ne (by omega)]; exact ⟨rfl, rfl⟩)
theorem wf_cell {α : Mem} (hf : WF α) (s i v : Int32) : WF (sq_cell α s i v) := by
  unfold sq_cell
  split
  · exact wf_put (s := 0) hf (by omega)
  · exact hf
theorem vx_put {α μ : Mem} (hf : WF α) (h : VX α μ) {s k : Nat} (hs : s < 4) (hk : k < 40) (v : Int32) : VX (mset α 16 (40 * s + k) v) (mset μ (75 + 2 * s) k v) ∧ keepM μ (mset μ (75 + 2 * s) k v) := by
  obtain ⟨e1, e2, e3⟩ := h.1.2.2.2.2.2.2.1 s hs
  refine vx_sh hf h hs (fun r hr => mset_ne (by omega)) (fun a ha => mset_ne (by omega)) ?_ (fun t _ ht => ⟨by rw [mset_ne (by omega)], by rw [mset_ne (by omega)], fun j hj => mset_other (by omega)⟩)
  rw [mset_ne (by omega), mset_ne (by omega), mset_ne (by omega)]
  refine ⟨e1, e2, fun j hj => ?_⟩
  by_cases c : j = k
  · rw [c, mset_same, mset_same]
  · rw [mset_other (by omega), mset_other (by omega)]
    exact e3 j hj
theorem putM_shown {α μ : Mem} (hf : WF α) (h : VX α μ) {s : Nat} (hs : s < 4) {i : Int32} (hi : holdsB (α 15 s) i 1 = true) (v : Int32) : VX (mset α 16 (40 * s + i.toNatClampNeg) (narF (α 14 s) v)) (putM μ (74 + 2 * s) i v) ∧ keepM μ (putM μ (74 + 2 * s) i v) := by
  obtain ⟨-, e1, e2, -⟩ := sz_of hf h.1 hs
  obtain ⟨-, z, hz, ez⟩ := hf.2.2.2.2.2.2.2 s hs
  have hp : putM μ (74 + 2 * s) i v = mset μ (75 + 2 * s) i.toNatClampNeg (narF (α 14 s) v) := by
    unfold putM
    rw [e2, if_pos hi, e1, show 74 + 2 * s + 1 = 75 + 2 * s by omega]
  rw [hp]
  rw [ez] at hi
  obtain ⟨k, hk, rfl⟩ := holdsB_1 hz hi
  rw [ix_nI (by omega)]
  exact vx_put hf h hs (by omega) _
theorem sg_X7_cell_0 {G : GW} {K : Option Value → Mem → Prop} {μ : Mem} {x1 x2 x3 : Int32}  (h : (((inB x1 0 3) = true) → (vp_in x1 4) ∧ (((decide (μ (74 + 2 * x1.toNatClampNeg) 1 = -1)) = false) → (vp_in x1 4) ∧ (((holdsB (μ (74 + 2 * x1.toNatClampNeg) 2) x2 (1 : Int32)) = true) → (vp_in x1 4) ∧ (szOK μ (74 + 2 * x1.toNatClampNeg)) ∧ K (some (.int 1)) (putM μ (74 + 2 * x1.toNatClampNeg) x2 x3)) ∧ (((holdsB (μ (74 + 2 * x1.toNatClampNeg) 2) x2 (1 : Int32)) = false) → K (some (.int (-12))) μ)) ∧ (((decide (μ (74 + 2 * x1.toNatClampNeg) 1 = -1)) = true) → K (some (.int (-11))) μ)) ∧ (((inB x1 0 3) = false) → K (some (.int (-2))) μ)) : Ev2 G mX7_cell 3 0 [(0, .ref 10), (1, .int x1), (2, .int x2), (3, .int x3)] [] μ K := by
  refine ev_iload_n dX7_cell_0 1 rfl ?_
  refine e2_callS (w := .int (bi (inB x1 0 3))) (μ1 := μ) (as := [.int x1]) (st := []) ok_X7_isSheet sv_X7_isSheet ml_7_229 dX7_cell_1 rfl rfl (Nat.le_of_ble_eq_true rfl) (Nat.le_of_ble_eq_true rfl) (by decide) (ct_X7_isSheet (x1) μ) ?_
  refine ev_ifne_bi (tgt := 10) dX7_cell_4 rfl (fun c1 => ?_) (fun c1 => ?_)
  · have h2 := h.1 c1
    refine ev_aload_n dX7_cell_10 0 rfl (by decide) ?_
    refine ev_getR' fl_7_56 rfl kd_10 rf_10_8 dX7_cell_11 ?_
    refine ev_iload_n dX7_cell_14 1 rfl ?_
    have p4 := h2.1
    have h5 := h2.2
    refine ev_aaload' (k := 7) kd_42 (by omega) ln_42 p4 (raS p4) dX7_cell_15 ?_
    refine e2_callV (w := .int (bi (decide (μ (74 + 2 * x1.toNatClampNeg) 1 = -1)))) (μ1 := μ) (a := (74 + 2 * x1.toNatClampNeg)) (as := []) (st := []) ok_X4_isMissing vi_X4_isMissing ml_7_232 hcl_4 (kdSh (isS p4)) dX7_cell_16 rfl rfl (Nat.le_of_ble_eq_true rfl) (Nat.le_of_ble_eq_true rfl) (by decide) (ct_X4_isMissing (74 + 2 * x1.toNatClampNeg) (isS p4) μ) ?_
    refine ev_ifeq_bi (tgt := 25) dX7_cell_19 rfl (fun c6 => ?_) (fun c6 => ?_)
    · have h7 := h5.1 c6
      refine ev_aload_n dX7_cell_25 0 rfl (by decide) ?_
      refine ev_getR' fl_7_56 rfl kd_10 rf_10_8 dX7_cell_26 ?_
      refine ev_iload_n dX7_cell_29 1 rfl ?_
      have p9 := h7.1
      have h10 := h7.2
      refine ev_aaload' (k := 7) kd_42 (by omega) ln_42 p9 (raS p9) dX7_cell_30 ?_
      refine ev_iload_n dX7_cell_31 2 rfl ?_
      refine ev_iconst (v := 1) dX7_cell_32 rfl ?_
      refine e2_callV (w := .int (bi (holdsB (μ (74 + 2 * x1.toNatClampNeg) 2) x2 (1 : Int32)))) (μ1 := μ) (a := (74 + 2 * x1.toNatClampNeg)) (as := [.int x2, .int 1]) (st := []) ok_X4_holds vi_X4_holds ml_7_283 hcl_4 (kdSh (isS p9)) dX7_cell_33 rfl rfl (Nat.le_of_ble_eq_true rfl) (Nat.le_of_ble_eq_true rfl) (by decide) (ct_X4_holds (74 + 2 * x1.toNatClampNeg) (isS p9) (x2) (1) μ) ?_
      refine ev_ifne_bi (tgt := 42) dX7_cell_36 rfl (fun c11 => ?_) (fun c11 => ?_)
      · have h12 := h10.1 c11
        refine ev_aload_n dX7_cell_42 0 rfl (by decide) ?_
        refine ev_getR' fl_7_56 rfl kd_10 rf_10_8 dX7_cell_43 ?_
        refine ev_iload_n dX7_cell_46 1 rfl ?_
        have p14 := h12.1
        have h15 := h12.2
        refine ev_aaload' (k := 7) kd_42 (by omega) ln_42 p14 (raS p14) dX7_cell_47 ?_
        refine ev_iload_n dX7_cell_48 2 rfl ?_
        refine ev_iload_n dX7_cell_49 3 rfl ?_
        have p16 := h15.1
        have h17 := h15.2
        refine e2_callVv (μ1 := (putM μ (74 + 2 * x1.toNatClampNeg) x2 x3)) (a := (74 + 2 * x1.toNatClampNeg)) (as := [.int x2, .int x3]) (st := []) ok_X4_put vi_X4_put ml_7_259 hcl_4 (kdSh (isS p14)) dX7_cell_50 rfl rfl (Nat.le_of_ble_eq_true rfl) (Nat.le_of_ble_eq_true rfl) (by decide) (ct_X4_put (74 + 2 * x1.toNatClampNeg) (isS p14) (x2) (x3) μ p16) ?_
        refine ev_iconst (v := 1) dX7_cell_53 rfl ?_
        exact ev_ireturn dX7_cell_54 rfl True.intro rfl rfl ⟨rfl, h17⟩
      · have h13 := h10.2 c11
        refine ev_bipush (v := (-12)) dX7_cell_39 rfl ?_
        exact ev_ireturn dX7_cell_41 rfl True.intro rfl rfl ⟨rfl, h13⟩
    · have h8 := h5.2 c6
      refine ev_bipush (v := (-11)) dX7_cell_22 rfl ?_
      exact ev_ireturn dX7_cell_24 rfl True.intro rfl rfl ⟨rfl, h8⟩
  · have h3 := h.2 c1
    refine ev_bipush (v := (-2)) dX7_cell_7 rfl ?_
    exact ev_ireturn dX7_cell_9 rfl True.intro rfl rfl ⟨rfl, h3⟩
theorem pb_X7_cell {G : GW} {α μ : Mem} (hf : WF α) (h : VX α μ) (x1 x2 x3 : Int32) : pubX G mX7_cell 3 [(0, .ref 10), (1, .int x1), (2, .int x2), (3, .int x3)] α μ (.int (sp_cell α x1 x2)) (sq_cell α x1 x2 x3) := by
  have hk := keepM.rf μ
  refine sg_X7_cell_0 ⟨fun c => ?_, fun c => ?_⟩
  · obtain ⟨s, hs, rfl⟩ := inB_nI (m := 3) (by omega) c
    unfold sp_cell sq_cell
    rw [if_pos c, ix_nI (by omega)]
    obtain ⟨z, e1, e2, -⟩ := sz_of hf h.1 (s := s) (by omega)
    rw [e1, e2]
    refine ⟨vp4 c, fun d => ⟨vp4 c, fun e => ⟨vp4 c, z, ?_⟩, fun e => ?_⟩, fun d => ?_⟩
    · have d := of_decide_eq_false d
      rw [if_neg d, if_pos e, if_pos ⟨c, d, e⟩]
      exact ⟨rfl, putM_shown hf h (by omega) e x3⟩
    · have d := of_decide_eq_false d
      rw [if_neg d, if_neg (by rw [e]; decide), if_neg (by rw [e]; simp)]
      exact ⟨rfl, h, hk⟩
    · have d := of_decide_eq_true d
      rw [if_pos d, if_neg (fun q => q.2.1 d)]
      exact ⟨rfl, h, hk⟩
  · unfold sp_cell sq_cell
    rw [if_neg (by rw [c]; decide), if_neg (by rw [c]; simp)]
    exact ⟨rfl, h, hk⟩
/-! film -/
def sp_film (s a : Int32) : Int32 := if inB s 0 3 = true then (if inB a 0 6 = true then 7 else -5) else -2
def filF (f : Nat → Int32) (n k : Nat) : Int32 := if k < n then f k else 0
def sq_film (α : Mem) (s a : Int32) : Mem := if inB s 0 3 = true ∧ inB a 0 6 = true then shA α s.toNatClampNeg 2 7 (filF (runA α (allA α) (-1) a.toNatClampNeg 0) 7) else α
theorem wf_film {α : Mem} (hf : WF α) (s a : Int32) : WF (sq_film α s a) := by
  unfold sq_film
  split
  · refine wf_sh (s := s.toNatClampNeg) hf (fun r hr => shA_row hr) ?_ (fun t _ ht => ⟨(shA_old ht).1, (shA_old ht).2.1⟩)
    rw [shA_new.1, shA_new.2.1]
    exact ⟨Or.inr (Or.inr (Or.inr rfl)), 7, by omega, rfl⟩
  · exact hf
theorem filF_step {α : Mem} {s i : Nat} {f : Nat → Int32} (hi : i < 7) : mset (shA α s 2 7 (filF f i)) 16 (40 * s + i) (f i) = shA α s 2 7 (filF f (i + 1)) := by
  funext r k
  unfold mset shA filF
  by_cases c : r = 16 ∧ k = 40 * s + i
  · rw [if_pos c, if_neg (by omega), if_neg (by omega), if_pos (by omega), if_pos (by omega), c.2, Nat.add_sub_cancel_left]
  · rw [if_neg c]
    by_cases d : r = 16 ∧ 40 * s ≤ k ∧ k < 40 * s + 40
    · have a1 : ¬ (r = 14 ∧ k = s) := by omega
      have a2 : ¬ (r = 15 ∧ k = s) := by omega
      simp only [if_neg a1, if_neg a2, if_pos d]
      by_cases e : k - 40 * s < i
      · rw [if_pos e, if_pos (by omega)]
      · rw [if_neg e, if_neg (by omega)]
    · rw [if_neg d, if_neg d]
theorem filF_0 {f : Nat → Int32} : filF f 0 = fun _ => 0 := by
  funext k
  exact if_neg (by omega)
theorem sg_X7_film_0 {G : GW} {K : Option Value → Mem → Prop} {μ : Mem} {x1 x2 : Int32}  (h : (((inB x1 0 3) = true) → (((inB x2 0 6) = true) → (vp_in x2 7 ∧ goOK (goX μ) ((((1 : Int32) <<< (μ 10 9 &&& 31)) - 1))) ∧ ∀ μ9 : Mem, (sameQ μ μ9 ∧ eq7 (get4 27 μ9) (runV (goX μ) (tmX μ) (wX μ) ((((1 : Int32) <<< (μ 10 9 &&& 31)) - 1)) (-1) x2.toNatClampNeg)) → (vp_in x1 4) ∧ Ev2 G mX7_film 7 39 [(0, .ref 10), (1, .int x1), (3, .int 0)] [] (becomeS μ9 (74 + 2 * x1.toNatClampNeg) (2 : Int32) (7 : Int32)) K) ∧ (((inB x2 0 6) = false) → K (some (.int (-5))) μ)) ∧ (((inB x1 0 3) = false) → K (some (.int (-2))) μ)) : Ev2 G mX7_film 7 0 [(0, .ref 10), (1, .int x1), (2, .int x2)] [] μ K := by
  refine ev_iload_n dX7_film_0 1 rfl ?_
  refine e2_callS (w := .int (bi (inB x1 0 3))) (μ1 := μ) (as := [.int x1]) (st := []) ok_X7_isSheet sv_X7_isSheet ml_7_229 dX7_film_1 rfl rfl (Nat.le_of_ble_eq_true rfl) (Nat.le_of_ble_eq_true rfl) (by decide) (ct_X7_isSheet (x1) μ) ?_
  refine ev_ifne_bi (tgt := 10) dX7_film_4 rfl (fun c1 => ?_) (fun c1 => ?_)
  · have h2 := h.1 c1
    refine ev_iload_n dX7_film_10 2 rfl ?_
    refine e2_callS (w := .int (bi (inB x2 0 6))) (μ1 := μ) (as := [.int x2]) (st := []) ok_X7_isPlace sv_X7_isPlace ml_7_94 dX7_film_11 rfl rfl (Nat.le_of_ble_eq_true rfl) (Nat.le_of_ble_eq_true rfl) (by decide) (ct_X7_isPlace (x2) μ) ?_
    refine ev_ifne_bi (tgt := 20) dX7_film_14 rfl (fun c4 => ?_) (fun c4 => ?_)
    · have h5 := h2.1 c4
      refine ev_aload_n dX7_film_20 0 rfl (by decide) ?_
      refine ev_iload_n dX7_film_21 2 rfl ?_
      have p7 := h5.1
      have h8 := h5.2
      refine e2_callVrv (Rl := fun μ9 => sameQ μ μ9 ∧ eq7 (get4 27 μ9) (runV (goX μ) (tmX μ) (wX μ) ((((1 : Int32) <<< (μ 10 9 &&& 31)) - 1)) (-1) x2.toNatClampNeg)) (a := 10) (as := [.int x2]) (st := []) ok_X7_searchAll vi_X7_searchAll ml_7_223 hcl_7 kd_10 dX7_film_22 rfl rfl (Nat.le_of_ble_eq_true rfl) (Nat.le_of_ble_eq_true rfl) (by decide) (ct_X7_searchAll (x2) μ p7) (fun μ9 r10 => ?_)
      have h11 := h8 μ9 r10
      refine ev_aload_n dX7_film_25 0 rfl (by decide) ?_
      refine ev_getR' fl_7_56 rfl kd_10 rf_10_8 dX7_film_26 ?_
      refine ev_iload_n dX7_film_29 1 rfl ?_
      have p12 := h11.1
      have h13 := h11.2
      refine ev_aaload' (k := 7) kd_42 (by omega) ln_42 p12 (raS p12) dX7_film_30 ?_
      refine ev_iconst (v := 2) dX7_film_31 rfl ?_
      refine ev_bipush (v := 7) dX7_film_32 rfl ?_
      refine e2_callVv (μ1 := (becomeS μ9 (74 + 2 * x1.toNatClampNeg) (2 : Int32) (7 : Int32))) (a := (74 + 2 * x1.toNatClampNeg)) (as := [.int 2, .int 7]) (st := []) ok_X4_become vi_X4_become ml_7_253 hcl_4 (kdSh (isS p12)) dX7_film_34 rfl rfl (Nat.le_of_ble_eq_true rfl) (Nat.le_of_ble_eq_true rfl) (by decide) (ct_X4_become (74 + 2 * x1.toNatClampNeg) (isS p12) (2) (7) μ9) ?_
      refine ev_iconst (v := 0) dX7_film_37 rfl ?_
      refine ev_istore_n (lv' := [(0, .ref 10), (1, .int x1), (2, .int x2), (3, .int 0)]) dX7_film_38 (by decide) [1, 2, 3, 0] rfl ?_
      refine EvW.less [0, 1, 3] (lv' := [(0, .ref 10), (1, .int x1), (3, .int 0)]) rfl ?_
      exact h13
    · have h6 := h2.2 c4
      refine ev_bipush (v := (-5)) dX7_film_17 rfl ?_
      exact ev_ireturn dX7_film_19 rfl True.intro rfl rfl ⟨rfl, h6⟩
  · have h3 := h.2 c1
    refine ev_bipush (v := (-2)) dX7_film_7 rfl ?_
    exact ev_ireturn dX7_film_9 rfl True.intro rfl rfl ⟨rfl, h3⟩
theorem sg_X7_film_39 {G : GW} {K : Option Value → Mem → Prop} {μ : Mem} {x1 x3 : Int32}  (h : ((7 ≤ x3) → K (some (.int 7)) μ) ∧ ((¬ (7 ≤ x3)) → (vp_in x1 4) ∧ (vp_in x3 7) ∧ (szOK μ (74 + 2 * x1.toNatClampNeg)) ∧ Ev2 G mX7_film 7 39 [(0, .ref 10), (1, .int x1), (3, .int (x3 + 1))] [] (putM μ (74 + 2 * x1.toNatClampNeg) x3 (μ 27 x3.toNatClampNeg)) K)) : Ev2 G mX7_film 7 39 [(0, .ref 10), (1, .int x1), (3, .int x3)] [] μ K := by
  refine ev_iload_n dX7_film_39 2 rfl ?_
  refine ev_bipush (v := 7) dX7_film_40 rfl ?_
  refine ev_icmp_ge (tgt := 69) dX7_film_42 rfl (fun c1 => ?_) (fun c1 => ?_)
  · have h2 := h.1 c1
    refine ev_bipush (v := 7) dX7_film_69 rfl ?_
    exact ev_ireturn dX7_film_71 rfl True.intro rfl rfl ⟨rfl, h2⟩
  · have h3 := h.2 c1
    refine ev_aload_n dX7_film_45 0 rfl (by decide) ?_
    refine ev_getR' fl_7_56 rfl kd_10 rf_10_8 dX7_film_46 ?_
    refine ev_iload_n dX7_film_49 1 rfl ?_
    have p4 := h3.1
    have h5 := h3.2
    refine ev_aaload' (k := 7) kd_42 (by omega) ln_42 p4 (raS p4) dX7_film_50 ?_
    refine ev_iload_n dX7_film_51 2 rfl ?_
    refine ev_aload_n dX7_film_52 0 rfl (by decide) ?_
    refine ev_getR' fl_7_43 rfl kd_10 rf_10_6 dX7_film_53 ?_
    refine ev_iload_n dX7_film_56 2 rfl ?_
    have p6 := h5.1
    have h7 := h5.2
    refine e2_callV (w := .int (μ 27 x3.toNatClampNeg)) (μ1 := μ) (a := 26) (as := [.int x3]) (st := [.int x3, .ref (74 + 2 * x1.toNatClampNeg)]) ok_X3_soonAt vi_X3_soonAt ml_7_256 hcl_3 kd_26 dX7_film_57 rfl rfl (Nat.le_of_ble_eq_true rfl) (Nat.le_of_ble_eq_true rfl) (by decide) (ct_X3_soonAt (x3) μ p6) ?_
    have p8 := h7.1
    have h9 := h7.2
    refine e2_callVv (μ1 := (putM μ (74 + 2 * x1.toNatClampNeg) x3 (μ 27 x3.toNatClampNeg))) (a := (74 + 2 * x1.toNatClampNeg)) (as := [.int x3, .int (μ 27 x3.toNatClampNeg)]) (st := []) ok_X4_put vi_X4_put ml_7_259 hcl_4 (kdSh (isS p4)) dX7_film_60 rfl rfl (Nat.le_of_ble_eq_true rfl) (Nat.le_of_ble_eq_true rfl) (by decide) (ct_X4_put (74 + 2 * x1.toNatClampNeg) (isS p4) (x3) ((μ 27 x3.toNatClampNeg)) μ p8) ?_
    refine ev_iinc (v := (x3 + 1)) (lv' := [(0, .ref 10), (1, .int x1), (3, .int (x3 + 1))]) dX7_film_63 2 rfl rfl (by decide) [1, 2, 0] rfl ?_
    refine ev_goto (tgt := 39) dX7_film_66 rfl ?_
    exact h9
theorem lp_X7_film {G : GW} {α μ0 : Mem} {f : Nat → Int32} {s : Nat} (hs : s < 4) (hw : ∀ i, i ≤ 7 → WF (shA α s 2 7 (filF f i))) : ∀ j i (μ : Mem), i + j = 7 → VX (shA α s 2 7 (filF f i)) μ → keepM μ0 μ → (∀ k, k < 7 → μ 27 k = f k) → Ev2 G mX7_film 7 39 [(0, .ref 10), (1, .int (nI s)), (3, .int (nI i))] [] μ (fun v μ' => v = some (.int 7) ∧ VX (shA α s 2 7 (filF f 7)) μ' ∧ keepM μ0 μ') := by
  intro j
  induction j with
  | zero =>
    intro i μ hi h hm hq
    obtain rfl : i = 7 := by omega
    exact sg_X7_film_39 ⟨fun _ => ⟨rfl, h, hm⟩, fun c => absurd (nI_le (a := 7) (Nat.le_refl _) (by omega)) c⟩
  | succ j ih =>
    intro i μ hi h hm hq
    refine sg_X7_film_39 ⟨fun c => absurd c (nI_ge (b := 7) (by omega) (by omega)), fun _ => ⟨vp_nI hs (by omega), vp_nI (by omega) (by omega), ?_⟩⟩
    rw [ix_nI (i := s) (by omega), ix_nI (i := i) (by omega), hq i (by omega)]
    obtain ⟨z, e1, e2, -⟩ := sz_of (hw i (by omega)) h.1 hs
    refine ⟨z, ?_⟩
    have n2 : shA α s 2 7 (filF f i) 15 s = 7 := shA_new.2.1
    have n1 : shA α s 2 7 (filF f i) 14 s = 2 := shA_new.1
    have hi7 : holdsB (shA α s 2 7 (filF f i) 15 s) (nI i) 1 = true := by
      rw [n2]
      have : ∀ i, i < 7 → holdsB 7 (nI i) 1 = true := by decide
      exact this i (by omega)
    obtain ⟨q1, q2⟩ := putM_shown (hw i (by omega)) h hs hi7 (f i)
    have en : narF (shA α s 2 7 (filF f i) 14 s) (f i) = f i := by
      rw [n1]
      unfold narF
      rw [if_neg (by decide), if_neg (by decide)]
    rw [en, ix_nI (by omega), filF_step (by omega)] at q1
    have hh := ih (i + 1) _ (by omega) q1 (hm.tr q2) (fun k hk => by
      rw [← hq k hk]
      unfold putM
      split
      · rw [mset_ne (by omega)]
      · rfl)
    rw [← nI_1] at hh
    exact hh
theorem pb_X7_film {G : GW} {α μ : Mem} (hf : WF α) (h : VX α μ) (x1 x2 : Int32) : pubX G mX7_film 7 [(0, .ref 10), (1, .int x1), (2, .int x2)] α μ (.int (sp_film x1 x2)) (sq_film α x1 x2) := by
  have hk := keepM.rf μ
  refine sg_X7_film_0 ⟨fun c => ⟨fun d => ?_, fun d => ?_⟩, fun c => ?_⟩
  · rw [VX.all h.1]
    unfold sp_film sq_film
    rw [if_pos c, if_pos d, if_pos ⟨c, d⟩]
    obtain ⟨s, hs, rfl⟩ := inB_nI (m := 3) (by omega) c
    obtain ⟨a, ha, rfl⟩ := inB_nI (m := 6) (by omega) d
    rw [ix_nI (i := s) (by omega), ix_nI (i := a) (by omega)]
    refine ⟨⟨vp7 d, h.go hf (allA_ok hf.1)⟩, fun ν hν => ⟨vp4 c, ?_⟩⟩
    obtain ⟨h1, k1, q1⟩ := all_shown hf h hν
    obtain ⟨b1, b2⟩ := vx_become hf h1 (s := s) (z := 7) (by omega) (by omega) 2
    refine lp_X7_film (f := runA α (allA α) (-1) a 0) (by omega) (fun i _ => ?_) 7 0 _ rfl ?_ (k1.tr b2) (fun k hk => ?_)
    · refine wf_sh (s := s) hf (fun r hr => shA_row hr) ?_ (fun t _ ht => ⟨(shA_old ht).1, (shA_old ht).2.1⟩)
      rw [shA_new.1, shA_new.2.1]
      exact ⟨Or.inr (Or.inr (Or.inr rfl)), 7, by omega, rfl⟩
    · rw [filF_0]
      exact b1
    · rw [becomeS_at.2.2.2 27 (by omega)]
      exact q1 0 (by omega) k hk
  · unfold sp_film sq_film
    rw [if_pos c, if_neg (by rw [d]; decide), if_neg (by rw [d]; simp)]
    exact ⟨rfl, h, hk⟩
  · unfold sp_film sq_film
    rw [if_neg (by rw [c]; decide), if_neg (by rw [c]; simp)]
    exact ⟨rfl, h, hk⟩
