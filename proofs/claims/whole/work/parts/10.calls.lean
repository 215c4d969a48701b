/-! ===== calls: a method's contract out of its walk, and a call by it ===== -/
def g_Pc (G : GW) (S : HS) (μ : Mem) (as : List Value) : Array Value → State → Prop := fun v U => v = (as.map (cv G)).toArray ∧ HR G S μ U.heap ∧ TK G U ∧ EX G U
def g_Qc (G : GW) (r : Option FieldType) (N Z : Nat) (K : Option Value → HS → Mem → Prop) : Array Value → State → Outcome → State → Prop := fun _ _ o t => ∃ (v : Option Value) (S' : HS) (μ' : Mem), o = .returned v ∧ g_fit r v ∧ K v S' μ' ∧ HR G S' μ' t.heap ∧ S'.1 = N ∧ S'.2.1 = Z
abbrev g_ws (M : MK) : List Cond := Cond.code M.1 M.2.1 M.2.2.1 M.2.2.2 :: TW
abbrev g_rm (d nc nz : Nat) : Room := { frames := d, cells := nc, slots := nz, locals := 64 * d }
theorem g_blind (G : GW) (S : HS) (μ : Mem) (as : List Value) : FrameBlind (g_Pc G S μ as) := fun a U g mk q => ⟨q.1, q.2.1, va_K.moved (u := U) (U := U.calling g mk a) (Vm.Alike.refl U.vm) q.2.2.1, EX.warm (s := U) (U := U.calling g mk a) (State.WarmedH.refl U) q.2.2.2⟩
theorem lv_args_map (G : GW) : ∀ (as : List Value) (i : Nat), lv_args i (as.map (cv G)) = (lv_args i as).map (cvp G)
  | [], _ => rfl
  | a :: as, i => by
    show (i, cv G a) :: lv_args (if (cv G a).category = 2 then i + 2 else i + 1) (as.map (cv G)) = (i, cv G a) :: (lv_args (if a.category = 2 then i + 2 else i + 1) as).map (cvp G)
    rw [cv_cat, lv_args_map G as]
theorem lg_sl_map (G : GW) : ∀ as : List Value, (lg_sl (as.map (cv G))).length = (lg_sl as).length
  | [] => rfl
  | a :: as => by
    have h := lg_sl_map G as
    unfold lg_sl at h ⊢
    rw [List.map_cons, List.flatMap_cons, List.flatMap_cons, List.length_append, List.length_append, h, cv_cat]
    congr 1
    split <;> rfl
theorem g_fit_cv {G : GW} {r : Option FieldType} {v : Option Value} (h : g_fit r v) : v.toList.map (cv G) = v.toList := by
  cases v with
  | none => rfl
  | some v =>
    cases v with
    | int x => rfl
    | long x => rfl
    | _ =>
      exfalso
      cases r with
      | none => exact h
      | some ty => cases ty <;> exact h
theorem met_of {G : GW} {M : MK} {d N Z : Nat} {as : List Value} {S : HS} {μ : Mem} {K : Option Value → HS → Mem → Prop} (hpl : plainName M.1.cls = true) (hlen : (lg_sl as).length ≤ M.2.2.1) (hN0 : S.1 ≤ N) (hZ0 : S.2.1 ≤ Z)
    (h : EvW G M d N Z 0 (lv_args 0 as) [] S μ K) (l : Launch) : Met l M.1 (g_ws M) (g_rm d (N - S.1) (Z - S.2.1)) (g_Pc G S μ as) (g_Qc G M.2.2.2 N Z K) (N - S.1) (Z - S.2.1) (fun q => G.1.size ≤ q) := by
  refine Met.ofW (cc := M.2.1) (maxL := M.2.2.1) (ret := M.2.2.2) hpl rfl ?_
  intro p e s m args below meth c s₁ B hml hv
  obtain ⟨rfl, hH, hTK, hEX⟩ := hv
  have hts := atoms_spec (ws := g_ws M) B.pre
  have hl := lv_entry (as.map (cv G)) (n := M.2.2.1) (by rw [lg_sl_map]; exact hlen)
  rw [lv_args_map] at hl
  rw [lg_entry_eq]
  have w := h p l e (headSpec (g_ws M) (g_rm d (N - S.1) (Z - S.2.1))).room s m _ below meth c s.heap [] S.1 S.2.1 _ (MQ below (g_Qc G M.2.2.2 N Z K) (as.map (cv G)).toArray s (N - S.1) (Z - S.2.1) (fun q => G.1.size ≤ q))
    ⟨B.exec, B.bytes, hml, findClass_of_methodNamed B.named, fun w hw => hts w (List.mem_cons_of_mem _ hw), B.returns, B.notSynchronized, fun hi => (name_of_methodNamed B.named B.method).1.trans hi, ⟨Nat.le_refl _, Nat.le_refl _⟩, hTK, hEX⟩ hH (Nat.le_refl _) (Nat.le_refl _) (by show N ≤ S.1 + (N - S.1); omega) (by show Z ≤ S.2.1 + (Z - S.2.1); omega) (fun q hq => by cases hq) hl ?_
  · rw [Nat.sub_self, Nat.sub_self] at w
    exact w
  · intro v S' μ' H' locs' pc' lsA' hdec hfit hK hH' e1 e2 hlo'
    have hq : ∀ t : State, t.heap = H' → s.WarmedH t.vm → g_Qc G M.2.2.2 N Z K (as.map (cv G)).toArray s (.returned v) t := fun t ht _ => ⟨v, S', μ', rfl, hfit, hK, by rw [ht]; exact hH', e1, e2⟩
    have hr := B.returns
    have hlocks := B.notSynchronized
    generalize M.2.2.2 = ret at hdec hfit hq hr ⊢
    cases ret with
    | none =>
      cases v with
      | none => exact W.vret B.exec B.bytes hr hq hlo' hdec
      | some v => exact absurd hfit (by simp [g_fit])
    | some ty =>
      cases v with
      | none => exact absurd hfit (by cases ty <;> simp [g_fit])
      | some v =>
        cases v with
        | int x =>
          cases ty with
          | int => exact W.iret B.exec B.bytes hr hq hlo' hdec
          | boolean => exact W.zret (ty := .boolean) B.exec B.bytes hr hfit hq hlo' hdec
          | char => exact W.zret (ty := .char) B.exec B.bytes hr hfit hq hlo' hdec
          | byte => exact W.zret (ty := .byte) B.exec B.bytes hr hfit hq hlo' hdec
          | _ => exact absurd hfit (by simp [g_fit])
        | long x =>
          cases ty with
          | long => exact W.lret B.exec B.bytes hr hq hlo' hdec
          | _ => exact absurd hfit (by simp [g_fit])
        | _ => exact absurd hfit (by cases ty <;> simp [g_fit])
/-- what is asked of a method that is called: its words -/
def mOK (M : MK) (n : Nat) : Prop := plainName M.1.cls = true ∧ (M.1.cls ≠ "java/lang/invoke/MethodHandle" ∧ M.1.cls ≠ "java/lang/invoke/VarHandle" ∧ (parseMethodDescriptor M.1.desc).map (fun d => d.parameters.length) = some n) ∧ Cond.initialized M.1.cls ∈ TW ∧ Cond.code M.1 M.2.1 M.2.2.1 M.2.2.2 ∈ TW ∧ M.2.2.1 ≤ 45
theorem TW_ws {M : MK} {n : Nat} (h : mOK M n) {w : Cond} (hw : w ∈ g_ws M) : w ∈ TW := by
  rcases List.mem_cons.mp hw with e | hw
  · rw [e]
    exact h.2.2.2.1
  · exact hw
theorem goodTW {ws : List Cond} (h : ∀ w ∈ ws, w ∈ TW) : GoodIn TW ws := fun w hw => ⟨h w hw, TW_good (h w hw)⟩
section EVC
variable {G : GW} {M M' : MK} {d d' N Z N' Z' pc n idx : Nat} {lv : List (Nat × Value)} {st as stk : List Value} {S : HS} {μ : Mem} {K K' : Option Value → HS → Mem → Prop}
theorem ev_call (hrun : ∀ (p : Program) (l : Launch) (e : Env) (R : Room) (s : State) (m : MethodId) (args : Array Value) (below : List Frame) (meth : Method) (c : Code) (H : Heap) (locs : List Loc) (cells slots : Nat) (lsA : Array Slot), CX G M d p R s m args meth c → HR G S μ H → lsA.size = M.2.2.1 → cells + (N' - S.1) ≤ R.cells → slots + (Z' - S.2.1) ≤ R.slots →
      ∃ av : Array Value, va_Run p l e R s m args below meth c H locs cells slots (N' - S.1) (Z' - S.2.1) (F0 m pc lsA (stk.map (cv G))) (st.map (cv G)) (g_Qc G M'.2.2.2 N' Z' K' av) (fun q => G.1.size ≤ q))
    (hb : (S.1 ≤ N' ∧ N' ≤ N) ∧ S.2.1 ≤ Z' ∧ Z' ≤ Z) (kk : ∀ v S' μ', K' v S' μ' → g_fit M'.2.2.2 v → S'.1 = N' → S'.2.1 = Z' → EvW G M d N Z (pc + 3) lv (v.toList ++ st) S' μ' K) : EvW G M d N Z pc lv stk S μ K := by
  intro p l e R s m args below meth c H locs n0 z0 lsA Q C hH hn0 hz0 hN hZ hlo hl fin
  obtain ⟨av, hr⟩ := hrun p l e R s m args below meth c H locs (S.1 - n0) (S.2.1 - z0) lsA C hH hl.1 (by omega) (by omega)
  intro T hT X
  obtain ⟨v, st₀, t, T', L, h0, X', hL, e1, e2, ⟨v', S', μ', hv, hfit, hK, hHt, en, ez⟩, stp⟩ := hr T hT X
  cases hv
  have c1 : S.1 - n0 + (N' - S.1) = S'.1 - n0 := by omega
  have c2 : S.2.1 - z0 + (Z' - S.2.1) = S'.2.1 - z0 := by omega
  rw [c1, c2] at X'
  have k2 := kk v S' μ' hK hfit en ez p l e R s m args below meth c T'.heap (locs ++ L) n0 z0 lsA Q C (by rw [e1]; exact hHt) (by omega) (by omega) hN hZ (fun q hq => by
    rcases List.mem_append.mp hq with h | h
    · exact hlo q h
    · exact hL q h) hl fin
  rw [List.map_append, g_fit_cv hfit] at k2
  obtain ⟨t2, a1, b1⟩ := k2 T' rfl X'
  exact ⟨t2, stp t2 a1, b1⟩
theorem g_cat : ((st.map (cv G)).map fun v => v.category).sum = (st.map fun v => v.category).sum := by
  rw [List.map_map]
  congr 1
  exact List.map_congr_left (fun v _ => cv_cat G v)
theorem g_room {R : Room} (h : d ≤ R.frames ∧ 64 * d ≤ R.locals) (h1 : M'.2.2.1 ≤ 45) (hd : d' + 1 ≤ d) {nc nz : Nat} : (g_rm d' nc nz).frames + 1 ≤ R.frames ∧ 8 + (M'.2.2.1 + 11) + (g_rm d' nc nz).locals ≤ R.locals := by
  show d' + 1 ≤ R.frames ∧ 8 + (M'.2.2.1 + 11) + 64 * d' ≤ R.locals
  omega
/-- invokevirtual of a method of the receiver's own class -/
theorem ev_callV {a ci : Nat} (hM : mOK M' n) (hV : Cond.instanceMethod M'.1 ∈ TW ∧ Cond.selects M'.1.cls M'.1 M'.1 ∈ TW) (hS : Cond.methodLink M.1.cls idx M'.1 ∈ TW) (hcl : ∀ r, vwCl[ci]? = some r → r.1 = M'.1.cls) (hk : S.2.2.1 a = 10 + ci) (hd : decode M.2.1 pc = .ok (.invokevirtual idx, 3)) (hn : as.length = n)
    (hstk : as.reverse ++ .ref a :: st = stk) (hsum : (st.map fun v => v.category).sum ≤ 8) (hlen : (lg_sl (.ref a :: as)).length ≤ M'.2.2.1) (hdd : d' + 1 ≤ d) (hb : (S.1 ≤ N' ∧ N' ≤ N) ∧ S.2.1 ≤ Z' ∧ Z' ≤ Z)
    (hE : EvW G M' d' N' Z' 0 (lv_args 0 (.ref a :: as)) [] S μ K') (kk : ∀ v S' μ', K' v S' μ' → g_fit M'.2.2.2 v → S'.1 = N' → S'.2.1 = Z' → EvW G M d N Z (pc + 3) lv (v.toList ++ st) S' μ' K) : EvW G M d N Z pc lv stk S μ K := by
  refine ev_call (st := st) (M' := M') (K' := K') ?_ hb kk
  intro p l e R s m args below meth c H locs cells slots lsA C hH hsz h1 h2
  have hnz := hH.nz (a := a) (by omega)
  obtain ⟨r, hr, cell, q1, q2, q3, -⟩ := hH.obj hk
  have hcls := (C.2.2.2.2.2.2.2.2.2.1.1 ci r hr).2.1
  rw [hcl r hr] at hcls
  refine ⟨_, va_runV (As := as.map (cv G)) (rest := st.map (cv G)) (C := M'.1.cls) (b := g_adr G a) (Ts := TW) ⟨C.1, C.2.1, C.2.2.1, C.2.2.2.1, C.2.2.2.2.1⟩ (met_of hM.1 hlen hb.1.1 hb.2.1 hE l) (cwV (ws' := TW) n C.2.2.2.2.1 (goodTW ?_) rfl rfl rfl ⟨rfl, hM.2.1⟩ (g_room C.2.2.2.2.2.2.2.2.1 hM.2.2.2.2 hdd)) ⟨g_blind _ _ _ _, ⟨cell, q1, by rw [q3]; rfl, by rw [q2]; exact hcls⟩, fun U hU hW => ⟨by rw [st_ref hnz], by rw [hU]; exact hH, va_K.moved hW.alike C.2.2.2.2.2.2.2.2.2.1, EX.warm hW C.2.2.2.2.2.2.2.2.2.2⟩⟩ rfl (by rw [List.length_map]; exact hn) hsz ?_ (lv_room (by rw [g_cat]; exact hsum)) hd ⟨h1, h2⟩⟩
  · intro w hw
    unfold wsV at hw
    rcases List.mem_append.mp hw with h | h
    · simp only [List.mem_cons, List.not_mem_nil, or_false] at h
      rcases h with rfl | rfl | rfl | rfl
      · exact hS
      · exact hV.1
      · exact hV.2
      · exact hM.2.2.1
    · exact TW_ws hM h
  · show stk.map (cv G) = _
    rw [← hstk, List.map_append, st_ref hnz, List.map_reverse]
/-- invokestatic -/
theorem ev_callS (hM : mOK M' n) (hV : Cond.static M'.1 ∈ TW) (hS : Cond.methodLink M.1.cls idx M'.1 ∈ TW) (hd : decode M.2.1 pc = .ok (.invokestatic idx, 3)) (hn : as.length = n)
    (hstk : as.reverse ++ st = stk) (hsum : (st.map fun v => v.category).sum ≤ 8) (hlen : (lg_sl as).length ≤ M'.2.2.1) (hdd : d' + 1 ≤ d) (hb : (S.1 ≤ N' ∧ N' ≤ N) ∧ S.2.1 ≤ Z' ∧ Z' ≤ Z)
    (hE : EvW G M' d' N' Z' 0 (lv_args 0 as) [] S μ K') (kk : ∀ v S' μ', K' v S' μ' → g_fit M'.2.2.2 v → S'.1 = N' → S'.2.1 = Z' → EvW G M d N Z (pc + 3) lv (v.toList ++ st) S' μ' K) : EvW G M d N Z pc lv stk S μ K := by
  refine ev_call (st := st) (M' := M') (K' := K') ?_ hb kk
  intro p l e R s m args below meth c H locs cells slots lsA C hH hsz h1 h2
  refine ⟨_, va_runS (As := as.map (cv G)) (rest := st.map (cv G)) (Ts := TW) ⟨C.1, C.2.1, C.2.2.1, C.2.2.2.1, C.2.2.2.2.1⟩ (met_of hM.1 hlen hb.1.1 hb.2.1 hE l) (va_cwS (ws' := TW) n C.2.2.2.2.1 (goodTW ?_) rfl rfl rfl hM.2.1 (g_room C.2.2.2.2.2.2.2.2.1 hM.2.2.2.2 hdd)) ⟨g_blind _ _ _ _, fun U hU hW => ⟨rfl, by rw [hU]; exact hH, va_K.moved hW.alike C.2.2.2.2.2.2.2.2.2.1, EX.warm hW C.2.2.2.2.2.2.2.2.2.2⟩⟩ rfl (by rw [List.length_map]; exact hn) hsz ?_ (lv_room (by rw [g_cat]; exact hsum)) hd ⟨h1, h2⟩⟩
  · intro w hw
    unfold va_wsS at hw
    rcases List.mem_append.mp hw with h | h
    · simp only [List.mem_cons, List.not_mem_nil, or_false] at h
      rcases h with rfl | rfl | rfl
      · exact hS
      · exact hV
      · exact hM.2.2.1
    · exact TW_ws hM h
  · show stk.map (cv G) = _
    rw [← hstk, List.map_append, List.map_reverse]
/-- invokestatic of a nest mate's private method -/
theorem ev_callSN {host : String} (hM : mOK M' n) (hV : Cond.static M'.1 ∈ TW) (hS : Cond.methodLinkNest M.1.cls idx M'.1 host ∈ NWl) (hd : decode M.2.1 pc = .ok (.invokestatic idx, 3)) (hn : as.length = n)
    (hstk : as.reverse ++ st = stk) (hsum : (st.map fun v => v.category).sum ≤ 8) (hlen : (lg_sl as).length ≤ M'.2.2.1) (hdd : d' + 1 ≤ d) (hb : (S.1 ≤ N' ∧ N' ≤ N) ∧ S.2.1 ≤ Z' ∧ Z' ≤ Z)
    (hE : EvW G M' d' N' Z' 0 (lv_args 0 as) [] S μ K') (kk : ∀ v S' μ', K' v S' μ' → g_fit M'.2.2.2 v → S'.1 = N' → S'.2.1 = Z' → EvW G M d N Z (pc + 3) lv (v.toList ++ st) S' μ' K) : EvW G M d N Z pc lv stk S μ K := by
  refine ev_call (st := st) (M' := M') (K' := K') ?_ hb kk
  intro p l e R s m args below meth c H locs cells slots lsA C hH hsz h1 h2
  refine ⟨_, va_runSN (As := as.map (cv G)) (rest := st.map (cv G)) (Ts := TW) ⟨C.1, C.2.1, C.2.2.1, C.2.2.2.1, C.2.2.2.2.1⟩ (met_of hM.1 hlen hb.1.1 hb.2.1 hE l) ⟨va_cnB (ws' := TW) n C.2.2.2.2.1 (goodTW (fun w hw => TW_ws hM hw)) rfl rfl rfl (C.2.2.2.2.2.2.2.2.2.2.2.2.2.2.2.2.1 _ hS) (C.2.2.2.2.1 _ hM.2.2.1) hM.2.1 (g_room C.2.2.2.2.2.2.2.2.1 hM.2.2.2.2 hdd), C.2.2.2.2.1 _ hV, trivial⟩ ⟨g_blind _ _ _ _, fun U hU hW => ⟨rfl, by rw [hU]; exact hH, va_K.moved hW.alike C.2.2.2.2.2.2.2.2.2.1, EX.warm hW C.2.2.2.2.2.2.2.2.2.2⟩⟩ rfl (by rw [List.length_map]; exact hn) hsz ?_ (lv_room (by rw [g_cat]; exact hsum)) hd ⟨h1, h2⟩⟩
  show stk.map (cv G) = _
  rw [← hstk, List.map_append, List.map_reverse]
end EVC
