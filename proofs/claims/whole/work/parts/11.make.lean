/-! ===== what is made, constructors, links to what stands outside, the JDK's few members ===== -/
def S_mul (S : HS) (n k : Nat) : HS := (S.1 + 1 + n, S.2.1 + n + n * k, (fun a => if a = S.1 then 4 else if S.1 < a ∧ a ≤ S.1 + n then 1 else S.2.2.1 a), (fun a => if a = S.1 then n else if S.1 < a ∧ a ≤ S.1 + n then k else S.2.2.2.1 a), (fun a j => if a = S.1 ∧ j < n then S.1 + 1 + j else S.2.2.2.2 a j))
def mcpy (μ : Mem) (q0 q1 sp dp n : Nat) : Mem := fun a k => if a = q1 then va_cpy (μ q0) (μ q1) sp dp n k else μ a k
def imax (x y : Int32) : Int32 := if x < y then y else x
def imin (x y : Int32) : Int32 := if y < x then y else x
def iabs (x : Int32) : Int32 := if 0 ≤ x then x else 0 - x
section EVM
variable {G : GW} {M M' : MK} {d d' N Z N' Z' pc n idx : Nat} {lv : List (Nat × Value)} {st as stk : List Value} {S : HS} {μ : Mem} {K K' : Option Value → HS → Mem → Prop}
/-- a constructor of the own class, or of one whose constructor isn't private -/
theorem ev_callI {a : Nat} (hM : mOK M' n) (hi : M'.1.name = "<init>" ∧ M'.2.2.2 = none) (hV : Cond.instanceMethod M'.1 ∈ TW) (hS : Cond.methodLink M.1.cls idx M'.1 ∈ TW) (hk : S.2.2.1 a ≠ 0) (hd : decode M.2.1 pc = .ok (.invokespecial idx, 3)) (hn : as.length = n)
    (hstk : as.reverse ++ .ref a :: st = stk) (hsum : (st.map fun v => v.category).sum ≤ 8) (hlen : (lg_sl (.ref a :: as)).length ≤ M'.2.2.1) (hdd : d' + 1 ≤ d) (hb : (S.1 ≤ N' ∧ N' ≤ N) ∧ S.2.1 ≤ Z' ∧ Z' ≤ Z)
    (hE : EvW G M' d' N' Z' 0 (lv_args 0 (.ref a :: as)) [] S μ K') (kk : ∀ v S' μ', K' v S' μ' → g_fit M'.2.2.2 v → S'.1 = N' → S'.2.1 = Z' → EvW G M d N Z (pc + 3) lv (v.toList ++ st) S' μ' K) : EvW G M d N Z pc lv stk S μ K := by
  obtain ⟨y, b, nL, ret⟩ := M'
  obtain ⟨hi1, hi2⟩ := hi
  have hret : ret = none := hi2
  subst hret
  refine ev_call (st := st) (M' := (y, b, nL, none)) (K' := K') ?_ hb kk
  intro p l e R s m args below meth c H locs cells slots lsA C hH hsz h1 h2
  have hnz := hH.nz hk
  refine ⟨_, va_runI (As := as.map (cv G)) (rest := st.map (cv G)) (b := g_adr G a) (Ts := TW) ⟨C.1, C.2.1, C.2.2.1, C.2.2.2.1, C.2.2.2.2.1⟩ (met_of (M := (y, b, nL, none)) hM.1 hlen hb.1.1 hb.2.1 hE l) ⟨callB_of (ws' := TW) n C.2.2.2.2.1 (goodTW (fun w hw => TW_ws hM hw)) rfl rfl rfl (C.2.2.2.2.1 _ hM.2.2.1) (C.2.2.2.2.1 _ hS) hM.2.1 (g_room (M' := (y, b, nL, none)) C.2.2.2.2.2.2.2.2.1 hM.2.2.2.2 hdd), hi1, C.2.2.2.2.1 _ hV⟩ ⟨g_blind _ _ _ _, fun U hU hW => ⟨by rw [st_ref hnz], by rw [hU]; exact hH, va_K.moved hW.alike C.2.2.2.2.2.2.2.2.2.1, EX.warm hW C.2.2.2.2.2.2.2.2.2.2⟩⟩ rfl (by rw [List.length_map]; exact hn) hsz ?_ (lv_room (by rw [g_cat]; exact hsum)) hd ⟨h1, h2⟩⟩
  show stk.map (cv G) = _
  rw [← hstk, List.map_append, st_ref hnz, List.map_reverse]
/-- a nest mate's private constructor -/
theorem ev_callIN {a : Nat} {host : String} (hM : mOK M' n) (hi : M'.1.name = "<init>" ∧ M'.2.2.2 = none) (hV : Cond.instanceMethod M'.1 ∈ TW) (hS : Cond.methodLinkNest M.1.cls idx M'.1 host ∈ NWl) (hk : S.2.2.1 a ≠ 0) (hd : decode M.2.1 pc = .ok (.invokespecial idx, 3)) (hn : as.length = n)
    (hstk : as.reverse ++ .ref a :: st = stk) (hsum : (st.map fun v => v.category).sum ≤ 8) (hlen : (lg_sl (.ref a :: as)).length ≤ M'.2.2.1) (hdd : d' + 1 ≤ d) (hb : (S.1 ≤ N' ∧ N' ≤ N) ∧ S.2.1 ≤ Z' ∧ Z' ≤ Z)
    (hE : EvW G M' d' N' Z' 0 (lv_args 0 (.ref a :: as)) [] S μ K') (kk : ∀ v S' μ', K' v S' μ' → g_fit M'.2.2.2 v → S'.1 = N' → S'.2.1 = Z' → EvW G M d N Z (pc + 3) lv (v.toList ++ st) S' μ' K) : EvW G M d N Z pc lv stk S μ K := by
  obtain ⟨y, b, nL, ret⟩ := M'
  obtain ⟨hi1, hi2⟩ := hi
  have hret : ret = none := hi2
  subst hret
  refine ev_call (st := st) (M' := (y, b, nL, none)) (K' := K') ?_ hb kk
  intro p l e R s m args below meth c H locs cells slots lsA C hH hsz h1 h2
  have hnz := hH.nz hk
  refine ⟨_, va_runIN (As := as.map (cv G)) (rest := st.map (cv G)) (b := g_adr G a) (Ts := TW) ⟨C.1, C.2.1, C.2.2.1, C.2.2.2.1, C.2.2.2.2.1⟩ (met_of (M := (y, b, nL, none)) hM.1 hlen hb.1.1 hb.2.1 hE l) ⟨va_cnB (ws' := TW) n C.2.2.2.2.1 (goodTW (fun w hw => TW_ws hM hw)) rfl rfl rfl (C.2.2.2.2.2.2.2.2.2.2.2.2.2.2.2.2.1 _ hS) (C.2.2.2.2.1 _ hM.2.2.1) hM.2.1 (g_room (M' := (y, b, nL, none)) C.2.2.2.2.2.2.2.2.1 hM.2.2.2.2 hdd), hi1, C.2.2.2.2.1 _ hV⟩ ⟨g_blind _ _ _ _, fun U hU hW => ⟨by rw [st_ref hnz], by rw [hU]; exact hH, va_K.moved hW.alike C.2.2.2.2.2.2.2.2.2.1, EX.warm hW C.2.2.2.2.2.2.2.2.2.2⟩⟩ rfl (by rw [List.length_map]; exact hn) hsz ?_ (lv_room (by rw [g_cat]; exact hsum)) hd ⟨h1, h2⟩⟩
  show stk.map (cv G) = _
  rw [← hstk, List.map_append, st_ref hnz, List.map_reverse]
/-- Object's own constructor -/
theorem ev_objInit {a : Nat} (hw : Cond.methodLink M.1.cls idx objectInit ∈ TW ∧ Cond.instanceMethod objectInit ∈ TW ∧ Cond.code objectInit ⟨#[0xb1]⟩ 1 none ∈ TW) (hk : S.2.2.1 a ≠ 0) (hd : decode M.2.1 pc = .ok (.invokespecial idx, 3)) (hsum : (st.map fun v => v.category).sum ≤ 8) (hdd : 1 ≤ d) (kk : EvW G M d N Z (pc + 3) lv st S μ K) : EvW G M d N Z pc lv (.ref a :: st) S μ K := by
  intro p l e R s m args below meth c H locs n0 z0 lsA Q C hH hn0 hz0 hN hZ hlo hl fin
  have kw := kk p l e R s m args below meth c H locs n0 z0 lsA Q C hH hn0 hz0 hN hZ hlo hl fin
  rw [st_ref (hH.nz hk)]
  have hr := C.2.2.2.2.2.2.2.2.1
  refine W.objInit C.1 C.2.1 C.2.2.2.1 (C.2.2.2.2.1 _ hw.1) (C.2.2.2.2.1 _ hw.2.1) (C.2.2.2.2.1 _ hw.2.2) rfl (hl.1.trans C.2.2.1.symm) rfl hd (by omega) ?_ ?_
  · show 2 * 0 + ((st.map (cv G)).map fun v => v.category).sum + 12 ≤ R.locals
    rw [g_cat]
    omega
  · exact kw
theorem ev_new {ci : Nat} {r : vw_C} (hr : vwCl[ci]? = some r) (hw : Cond.classLink M.1.cls idx r.1 ∈ TW ∧ Cond.instantiable r.1 r.2.2 ∈ TW ∧ Cond.initialized r.1 ∈ TW) (hdv : ∀ k, k < r.2.2 → defaultValue (c_ty ci k) = if (c_ty ci k).isReference then .null else .int 0) (hz : ∀ k, μ S.1 k = 0 ∧ S.2.2.2.2 S.1 k = 0) (hd : decode M.2.1 pc = .ok (.new idx, 3)) (h1 : S.1 + 1 ≤ N) (h2 : S.2.1 + r.2.2 ≤ Z)
    (kk : EvW G M d N Z (pc + 3) lv (.ref S.1 :: st) (S_new S ci r.2.2) μ K) : EvW G M d N Z pc lv st S μ K := by
  intro p l e R s m args below meth c H locs n0 z0 lsA Q C hH hn0 hz0 hN hZ hlo hl fin
  obtain ⟨c1, c2, c3, c4, c5, c6, c7, c8, c9, c10, c11⟩ := id C
  obtain ⟨hc, hws, hpd, hnm⟩ := CL_of hr
  have hKn := c10.1 ci _ hc
  have hnx := hH.next
  refine W.newcK c1 c2 c4 (c5 _ hw.1) (c5 _ hw.2.1) (c5 _ hw.2.2) rfl hd (by omega) (by omega) hKn.2.1 rfl fun H1 kC hkC e1 z1 o1 => ?_
  have hS1 := hH.1
  have kw := kk p l e R s m args below meth c H1 locs n0 z0 lsA Q C (hH.push (S' := S_new S ci r.2.2) rfl z1 o1 (fun b hb => if_neg hb) (fun b hb => rfl) (fun _ _ _ => rfl) (fun _ _ _ => rfl) ?_) (by show n0 ≤ S.1 + 1; omega) (by show z0 ≤ S.2.1 + r.2.2; omega) hN hZ hlo hl fin
  · rw [st_ref (show S.1 ≠ 0 by omega), hnx] at kw
    have ea : S.1 + 1 - n0 = S.1 - n0 + 1 := by omega
    have eb : S.2.1 + r.2.2 - z0 = S.2.1 - z0 + r.2.2 := by omega
    have kw2 : W p l e R s m args below meth c H1 locs (S.1 + 1 - n0) (S.2.1 + r.2.2 - z0) Q (F0 m (pc + 3) lsA (.ref H.size :: st.map (cv G))) := kw
    rw [ea, eb] at kw2
    exact kw2
  · have hki : (S_new S ci r.2.2).2.2.1 S.1 = 10 + ci := if_pos rfl
    unfold g_cell
    rw [if_pos (by omega), hki, Nat.add_sub_cancel_left]
    refine ⟨r, hr, ?_⟩
    rw [hnx]
    refine (u_born (c_ty ci) c5 hws hKn hkC e1 hpd).to (fun k hk => ?_)
    rw [hdv k hk]
    show _ = g_fv G ci k (μ S.1 k) (S.2.2.2.2 S.1 k)
    rw [(hz k).1, (hz k).2]
    unfold g_fv
    split
    · rfl
    · rfl
theorem ev_newarray {k nn : Nat} {atype : ArrayType} {x : Int32} (ht : (k = 1 ∧ atype = .int) ∨ (k = 2 ∧ atype = .boolean) ∨ (k = 3 ∧ atype = .char)) (hw : Cond.arrayClass (newarray.typeOf atype) ∈ TW) (hx : ¬ x < 0 ∧ x.toNatClampNeg = nn ∧ nn ≤ 100000) (hz : ∀ j, μ S.1 j = 0) (hd : decode M.2.1 pc = .ok (.newarray atype, 2)) (h1 : S.1 + 1 ≤ N) (h2 : S.2.1 + nn ≤ Z)
    (kk : EvW G M d N Z (pc + 2) lv (.ref S.1 :: st) (S_arr S k nn) μ K) : EvW G M d N Z pc lv (.int x :: st) S μ K := by
  intro p l e R s m args below meth c H locs n0 z0 lsA Q C hH hn0 hz0 hN hZ hlo hl fin
  have hnx := hH.next
  have hS1 := hH.1
  have T := C.2.2.2.2.2.2.2.2.2.1.2
  have hcb : nn * componentBytes (newarray.typeOf atype) ≤ 536870912 := by
    rcases ht with ⟨-, rfl⟩ | ⟨-, rfl⟩ | ⟨-, rfl⟩
    · show nn * 4 ≤ _; omega
    · show nn * 1 ≤ _; omega
    · show nn * 2 ≤ _; omega
  refine va_newaK C.1 C.2.1 (C.2.2.2.2.1 _ hw) rfl hd rfl hx.1 hx.2.1 hcb (by omega) (by omega) rfl fun H1 cA e1 z1 o1 _ hnm => ?_
  have key : 1 ≤ k ∧ k ≤ 3 ∧ cA = G.2.2.2.1 k ∧ defaultValue (newarray.typeOf atype) = .int 0 := by
    rcases ht with ⟨rfl, rfl⟩ | ⟨rfl, rfl⟩ | ⟨rfl, rfl⟩
    · exact ⟨by omega, by omega, Option.some.inj (hnm.symm.trans (T 0 (G.2.2.2.1 1, .int) rfl).2), rfl⟩
    · exact ⟨by omega, by omega, Option.some.inj (hnm.symm.trans (T 1 (G.2.2.2.1 2, .boolean) rfl).2), rfl⟩
    · exact ⟨by omega, by omega, Option.some.inj (hnm.symm.trans (T 2 (G.2.2.2.1 3, .char) rfl).2), rfl⟩
  obtain ⟨k1, k3, rfl, hdv⟩ := key
  rw [hdv] at e1
  have kw := kk p l e R s m args below meth c H1 locs n0 z0 lsA Q C (hH.push (S' := S_arr S k nn) rfl z1 o1 (fun b hb => if_neg hb) (fun b hb => if_neg hb) (fun _ _ _ => rfl) (fun _ _ _ => rfl) ?_) (by show n0 ≤ S.1 + 1; omega) (by show z0 ≤ S.2.1 + nn; omega) hN hZ hlo hl fin
  · rw [st_ref (show S.1 ≠ 0 by omega), hnx] at kw
    have ea : S.1 + 1 - n0 = S.1 - n0 + 1 := by omega
    have eb : S.2.1 + nn - z0 = S.2.1 - z0 + nn := by omega
    have kw2 : W p l e R s m args below meth c H1 locs (S.1 + 1 - n0) (S.2.1 + nn - z0) Q (F0 m (pc + 2) lsA (.ref H.size :: st.map (cv G))) := kw
    rw [ea, eb] at kw2
    exact kw2
  · have hki : (S_arr S k nn).2.2.1 S.1 = k := if_pos rfl
    have hkl : (S_arr S k nn).2.2.2.1 S.1 = nn := if_pos rfl
    unfold g_cell
    rw [if_neg (by omega), if_pos (by omega), hki, hkl, hnx, e1]
    congr 2
    funext j
    rw [hz j]
theorem ev_anewarray {k ci nn : Nat} {r : vw_C} {x : Int32} (hr : vwCl[ci]? = some r) (hkc : (k = 5 ∧ ci = 0) ∨ (k = 6 ∧ ci = 6) ∨ (k = 7 ∧ ci = 4)) (hw : Cond.classLink M.1.cls idx r.1 ∈ TW) (hx : ¬ x < 0 ∧ x.toNatClampNeg = nn ∧ nn ≤ 100000) (hz : ∀ j, S.2.2.2.2 S.1 j = 0) (hd : decode M.2.1 pc = .ok (.anewarray idx, 3)) (h1 : S.1 + 1 ≤ N) (h2 : S.2.1 + nn ≤ Z)
    (kk : EvW G M d N Z (pc + 3) lv (.ref S.1 :: st) (S_arr S k nn) μ K) : EvW G M d N Z pc lv (.int x :: st) S μ K := by
  intro p l e R s m args below meth c H locs n0 z0 lsA Q C hH hn0 hz0 hN hZ hlo hl fin
  have hnx := hH.next
  have hS1 := hH.1
  have T := C.2.2.2.2.2.2.2.2.2.1.2
  have A := C.2.2.2.2.2.2.2.2.2.2.2.2.2.2.2.2.2.2
  obtain ⟨x0, x1, x2⟩ := hx
  subst x1
  have key : va_AO r.1 s ∧ va_RA s (G.2.2.2.1 k) (.object r.1) := by
    rcases hkc with ⟨rfl, rfl⟩ | ⟨rfl, rfl⟩ | ⟨rfl, rfl⟩
    · cases hr; exact ⟨A.1, (T 4 (G.2.2.2.1 5, .object RX0) rfl).2⟩
    · cases hr; exact ⟨A.2.1, (T 5 (G.2.2.2.1 6, .object RX6) rfl).2⟩
    · cases hr; exact ⟨A.2.2.1, (T 6 (G.2.2.2.1 7, .object RX4) rfl).2⟩
  obtain ⟨hAO, _, _, -, -, -, hnmA⟩ := key
  refine W.anew C.1 C.2.1 C.2.2.2.1 (C.2.2.2.2.1 _ hw) (va_AO.use hAO) rfl hd rfl x0 (by omega) (by omega) (by omega) fun cA kA comp g1 g2 g3 g4 => ?_
  have hcA : cA = G.2.2.2.1 k := Option.some.inj (g1.symm.trans hnmA)
  subst hcA
  generalize hH1 : H.push { cls := G.2.2.2.1 k, slots := Array.replicate x.toNatClampNeg .null, vm := .none } = H1
  have e1 : H1[H.size]? = some (arrV (G.2.2.2.1 k) x.toNatClampNeg (fun _ => .null)) := by
    rw [← hH1, ← arrV_new]
    simp
  have z1 : H1.size = H.size + 1 := by rw [← hH1]; simp
  have o1 : ∀ q : Nat, q < H.size → H1[q]? = H[q]? := fun q hq => by
    rw [← hH1, Array.getElem?_push, if_neg (Nat.ne_of_lt hq)]
  have kw := kk p l e R s m args below meth c H1 locs n0 z0 lsA Q C (hH.push (S' := S_arr S k x.toNatClampNeg) rfl z1 o1 (fun b hb => if_neg hb) (fun b hb => if_neg hb) (fun _ _ _ => rfl) (fun _ _ _ => rfl) ?_) (by show n0 ≤ S.1 + 1; omega) (by show z0 ≤ S.2.1 + x.toNatClampNeg; omega) hN hZ hlo hl fin
  · rw [st_ref (show S.1 ≠ 0 by omega), hnx] at kw
    have ea : S.1 + 1 - n0 = S.1 - n0 + 1 := by omega
    have eb : S.2.1 + x.toNatClampNeg - z0 = S.2.1 - z0 + x.toNatClampNeg := by omega
    have kw2 : W p l e R s m args below meth c H1 locs (S.1 + 1 - n0) (S.2.1 + x.toNatClampNeg - z0) Q (F0 m (pc + 3) lsA (.ref H.size :: st.map (cv G))) := kw
    rw [ea, eb] at kw2
    exact kw2
  · have hki : (S_arr S k x.toNatClampNeg).2.2.1 S.1 = k := if_pos rfl
    have hkl : (S_arr S k x.toNatClampNeg).2.2.2.1 S.1 = x.toNatClampNeg := if_pos rfl
    unfold g_cell
    rw [if_neg (by omega), if_neg (by omega), hki, hkl, hnx, e1]
    congr 2
    funext j
    show _ = g_rf G (S.2.2.2.2 S.1 j)
    rw [hz j]
    rfl
/-- Math.max, Math.min, Math.abs over ints -/
theorem ev_max {x y : Int32} (hw : Cond.methodLink M.1.cls idx Lib.Math.max.name ∈ TW ∧ Cond.static Lib.Math.max.name ∈ TW ∧ Cond.initialized "java/lang/Math" ∈ TW ∧ Cond.code Lib.Math.max.name Lib.Math.max.code 2 (some .int) ∈ TW) (hd : decode M.2.1 pc = .ok (.invokestatic idx, 3)) (hsum : (st.map fun v => v.category).sum ≤ 8) (hdd : 1 ≤ d) (hNZ : S.1 ≤ N ∧ S.2.1 ≤ Z) (kk : EvW G M d N Z (pc + 3) lv (.int (imax x y) :: st) S μ K) : EvW G M d N Z pc lv (.int y :: .int x :: st) S μ K := by
  intro p l e R s m args below meth c H locs n0 z0 lsA Q C hH hn0 hz0 hN hZ hlo hl fin
  have kw := kk p l e R s m args below meth c H locs n0 z0 lsA Q C hH hn0 hz0 hN hZ hlo hl fin
  have hr := C.2.2.2.2.2.2.2.2.1
  exact va_mmax C.1 C.2.1 (C.2.2.1.trans hl.1.symm) C.2.2.2.1 (C.2.2.2.2.1 _ hw.1) (C.2.2.2.2.1 _ hw.2.1) (C.2.2.2.2.1 _ hw.2.2.1) (C.2.2.2.2.1 _ hw.2.2.2) (by omega) (by rw [g_cat]; omega) (by omega) (by omega) hd kw
theorem ev_min {x y : Int32} (hw : Cond.methodLink M.1.cls idx Lib.Math.min.name ∈ TW ∧ Cond.static Lib.Math.min.name ∈ TW ∧ Cond.initialized "java/lang/Math" ∈ TW ∧ Cond.code Lib.Math.min.name Lib.Math.min.code 2 (some .int) ∈ TW) (hd : decode M.2.1 pc = .ok (.invokestatic idx, 3)) (hsum : (st.map fun v => v.category).sum ≤ 8) (hdd : 1 ≤ d) (hNZ : S.1 ≤ N ∧ S.2.1 ≤ Z) (kk : EvW G M d N Z (pc + 3) lv (.int (imin x y) :: st) S μ K) : EvW G M d N Z pc lv (.int y :: .int x :: st) S μ K := by
  intro p l e R s m args below meth c H locs n0 z0 lsA Q C hH hn0 hz0 hN hZ hlo hl fin
  have kw := kk p l e R s m args below meth c H locs n0 z0 lsA Q C hH hn0 hz0 hN hZ hlo hl fin
  have hr := C.2.2.2.2.2.2.2.2.1
  exact va_mmin C.1 C.2.1 (C.2.2.1.trans hl.1.symm) C.2.2.2.1 (C.2.2.2.2.1 _ hw.1) (C.2.2.2.2.1 _ hw.2.1) (C.2.2.2.2.1 _ hw.2.2.1) (C.2.2.2.2.1 _ hw.2.2.2) (by omega) (by rw [g_cat]; omega) (by omega) (by omega) hd kw
theorem ev_abs {x : Int32} (hw : Cond.methodLink M.1.cls idx Lib.Math.abs.name ∈ TW ∧ Cond.static Lib.Math.abs.name ∈ TW ∧ Cond.initialized "java/lang/Math" ∈ TW ∧ Cond.code Lib.Math.abs.name Lib.Math.abs.code 1 (some .int) ∈ TW) (hd : decode M.2.1 pc = .ok (.invokestatic idx, 3)) (hsum : (st.map fun v => v.category).sum ≤ 8) (hdd : 1 ≤ d) (hNZ : S.1 ≤ N ∧ S.2.1 ≤ Z) (kk : EvW G M d N Z (pc + 3) lv (.int (iabs x) :: st) S μ K) : EvW G M d N Z pc lv (.int x :: st) S μ K := by
  intro p l e R s m args below meth c H locs n0 z0 lsA Q C hH hn0 hz0 hN hZ hlo hl fin
  have kw := kk p l e R s m args below meth c H locs n0 z0 lsA Q C hH hn0 hz0 hN hZ hlo hl fin
  have hr := C.2.2.2.2.2.2.2.2.1
  exact va_mabs C.1 C.2.1 (C.2.2.1.trans hl.1.symm) C.2.2.2.1 (C.2.2.2.2.1 _ hw.1) (C.2.2.2.2.1 _ hw.2.1) (C.2.2.2.2.1 _ hw.2.2.1) (C.2.2.2.2.1 _ hw.2.2.2) (by omega) (by rw [g_cat]; omega) (by omega) (by omega) hd kw
/-- the script (address 1) and the static row of kinds (address 2) -/
theorem ev_slen (hd : decode M.2.1 pc = .ok (.arraylength, 1)) (kk : ∀ L : Nat, G.2.2.2.2.1 = L → EvW G M d N Z (pc + 1) lv (.int (nI L) :: st) S μ K) : EvW G M d N Z pc lv (.ref 1 :: st) S μ K := by
  intro p l e R s m args below meth c H locs n0 z0 lsA Q C hH hn0 hz0 hN hZ hlo hl fin
  have kw := kk _ rfl p l e R s m args below meth c H locs n0 z0 lsA Q C hH hn0 hz0 hN hZ hlo hl fin
  obtain ⟨scr, h1, h2, h3, h4, h5⟩ := C.2.2.2.2.2.2.2.2.2.2.1
  rw [st_ref (show (1 : Nat) ≠ 0 by omega)]
  show W p l e R s m args below meth c H locs _ _ Q (F0 m pc lsA (.ref (G.2.1 1) :: st.map (cv G)))
  exact W.alen (n := nI G.2.2.2.2.1) C.1 C.2.1 (by rw [hH.2.2.1 _ (Array.getElem?_eq_some_iff.mp h1).1]; exact h1) h2 (by rw [h4]; rfl) rfl rfl hd kw
theorem ev_sload {i : Int32} (hin : vp_in i G.2.2.2.2.1) (hd : decode M.2.1 pc = .ok (.iaload, 1)) (kk : EvW G M d N Z (pc + 1) lv (.int (G.2.2.2.2.2 i.toNatClampNeg) :: st) S μ K) : EvW G M d N Z pc lv (.int i :: .ref 1 :: st) S μ K := by
  intro p l e R s m args below meth c H locs n0 z0 lsA Q C hH hn0 hz0 hN hZ hlo hl fin
  have kw := kk p l e R s m args below meth c H locs n0 z0 lsA Q C hH hn0 hz0 hN hZ hlo hl fin
  obtain ⟨scr, h1, h2, h3, h4, h5⟩ := C.2.2.2.2.2.2.2.2.2.2.1
  show W p l e R s m args below meth c H locs _ _ Q (F0 m pc lsA (.int i :: List.map (cv G) (.ref 1 :: st)))
  rw [st_ref (show (1 : Nat) ≠ 0 by omega)]
  show W p l e R s m args below meth c H locs _ _ Q (F0 m pc lsA (.int i :: .ref (G.2.1 1) :: st.map (cv G)))
  exact W.iald (v := .int (G.2.2.2.2.2 i.toNatClampNeg)) C.1 C.2.1 (by rw [hH.2.2.1 _ (Array.getElem?_eq_some_iff.mp h1).1]; exact h1) h2 h3 (by rw [h4]; exact hin) (h5 _ (va_in_lt hin)) rfl rfl hd kw
theorem ev_kaload {i : Int32} (hin : vp_in i 6) (hd : decode M.2.1 pc = .ok (.iaload, 1)) (kk : EvW G M d N Z (pc + 1) lv (.int (kaV i.toNatClampNeg) :: st) S μ K) : EvW G M d N Z pc lv (.int i :: .ref 2 :: st) S μ K := by
  intro p l e R s m args below meth c H locs n0 z0 lsA Q C hH hn0 hz0 hN hZ hlo hl fin
  have kw := kk p l e R s m args below meth c H locs n0 z0 lsA Q C hH hn0 hz0 hN hZ hlo hl fin
  obtain ⟨cell, h1, h2, h3, h4, h5, h6, h7⟩ := C.2.2.2.2.2.2.2.2.2.2.2.2.1
  show W p l e R s m args below meth c H locs _ _ Q (F0 m pc lsA (.int i :: List.map (cv G) (.ref 2 :: st)))
  rw [st_ref (show (2 : Nat) ≠ 0 by omega)]
  show W p l e R s m args below meth c H locs _ _ Q (F0 m pc lsA (.int i :: .ref (G.2.1 2) :: st.map (cv G)))
  have hlt := va_in_lt hin
  refine W.iald (v := .int (kaV i.toNatClampNeg)) C.1 C.2.1 (by rw [hH.2.2.1 _ (Array.getElem?_eq_some_iff.mp h1).1]; exact h1) h2 h3 (fun q => ?_) (h6 _ hlt) rfl rfl hd kw
  rcases q with q | q
  · exact hin (Or.inl q)
  · omega
theorem ev_kalen (hd : decode M.2.1 pc = .ok (.arraylength, 1)) (kk : EvW G M d N Z (pc + 1) lv (.int 6 :: st) S μ K) : EvW G M d N Z pc lv (.ref 2 :: st) S μ K := by
  intro p l e R s m args below meth c H locs n0 z0 lsA Q C hH hn0 hz0 hN hZ hlo hl fin
  have kw := kk p l e R s m args below meth c H locs n0 z0 lsA Q C hH hn0 hz0 hN hZ hlo hl fin
  obtain ⟨cell, h1, h2, h3, h4, h5, h6, h7⟩ := C.2.2.2.2.2.2.2.2.2.2.2.2.1
  rw [st_ref (show (2 : Nat) ≠ 0 by omega)]
  show W p l e R s m args below meth c H locs _ _ Q (F0 m pc lsA (.ref (G.2.1 2) :: st.map (cv G)))
  exact W.alen (n := 6) C.1 C.2.1 (by rw [hH.2.2.1 _ (Array.getElem?_eq_some_iff.mp h1).1]; exact h1) h2 h5 rfl rfl hd kw
/-- the static row of kinds, from the class that has it, or from a nest mate -/
theorem ev_getka (hM : M.1.cls = RX0) (hd : decode M.2.1 pc = .ok (.getstatic 39, 3)) (kk : EvW G M d N Z (pc + 3) lv (.ref 2 :: st) S μ K) : EvW G M d N Z pc lv st S μ K := by
  intro p l e R s m args below meth c H locs n0 z0 lsA Q C hH hn0 hz0 hN hZ hlo hl fin
  have kw := kk p l e R s m args below meth c H locs n0 z0 lsA Q C hH hn0 hz0 hN hZ hlo hl fin
  have hown := C.2.2.2.1
  rw [hM] at hown
  obtain ⟨cf, kf, fi, f, a, cell, h1, h2, h3, h4, h5, h6, h7, h8⟩ := C.2.2.2.2.2.2.2.2.2.2.2.1
  rw [st_ref (show (2 : Nat) ≠ 0 by omega)] at kw
  have hL := C.2.2.2.2.2.2.2.2.2.2.2.2.2.2.2.2.2.1
  exact va_WgetsN (v := .ref (G.2.1 2)) C.1 C.2.1 hown (va_Nw.use rfl hL) h1 h2 h3 h4 (by rw [hH.2.2.1 _ (Array.getElem?_eq_some_iff.mp h5).1]; exact h5) (fun e9 => by rw [e9] at h6; cases h6) h7 rfl hd kw
/-- new int[n][k] -/
theorem W.mul {p : Program} {l : Launch} {e : Env} {R : Room} {s : State} {m : MethodId} {args : Array Value} {below : List Frame} {meth : Method} {c : Code} {H : Heap} {locs : List Loc} {cells slots : Nat} {Q : State → Prop} {cc : ByteArray} (hexec : p.tables.exec = Jvm.exec) (hb : c.code = cc) {own : String} {index : Nat} {ty : FieldType} (hown : s.vm.findClass own = some m.cls) (hclink : (Cond.classLink own index ("[" ++ (FieldType.array ty).toString)).before args s = true)
    (hover : (Cond.arrayOver (.array ty)).before args s = true) (harr : (Cond.arrayClass ty).before args s = true) {pc : Nat} {ls : Array Slot} {rest : List Value} (hdg : decode cc pc = .ok (.multianewarray index 2, 4)) {n k : Int32} {n' k' : Nat} (hn : ¬ n < 0) (hk : ¬ k < 0) (hn' : n.toNatClampNeg = n') (hk' : k.toNatClampNeg = k')
    (hb1 : n' * 4 ≤ 536870912) (hb2 : k' * componentBytes ty ≤ 536870912) (hb3 : k' ≤ 536870912) (hdf : fits ty (defaultValue ty) = true) (hdd : (defaultValue ty).isDefault = true) (hcells : cells + (1 + n') ≤ R.cells) (hslots : slots + (n' + n' * k') ≤ R.slots)
    (kk : ∀ (H1 : Heap) (cA comp : ClassId), s.vm.findClass ("[" ++ (FieldType.array ty).toString) = some cA → s.vm.findClass (FieldType.array ty).toString = some comp → H1.size = H.size + 1 + n' → (∀ q, q < H.size → H1[q]? = H[q]?) →
      H1[H.size]? = some (Jvm.Free.Multi.outerC cA n' H.size n') → (∀ j, j < n' → H1[H.size + 1 + j]? = some (Jvm.Free.Multi.innerC comp k' (defaultValue ty))) → W p l e R s m args below meth c H1 locs (cells + 1 + n') (slots + n' + n' * k') Q (F0 m (pc + 4) ls (.ref H.size :: rest))) :
    W p l e R s m args below meth c H locs cells slots Q (F0 m pc ls (.int k :: .int n :: rest)) := by
  subst hn'
  subst hk'
  intro T hT Xs
  obtain ⟨vm₁, cA, comp, -, fA, fC, -, -, X', step⟩ := Xs.multianewarray2F hexec hown hclink hover harr (g := F0 m pc ls (.int k :: .int n :: rest)) rfl (by rw [hb]; exact hdg) rfl hn hk hb1 hb2 hb3 hdf hdd hcells hslots
  generalize hF : Jvm.Free.Multi.fill (T.setVm vm₁) cA comp n.toNatClampNeg k.toNatClampNeg (defaultValue ty) n.toNatClampNeg = F at X' step
  have hTh : (T.setVm vm₁).heap = H := hT
  obtain ⟨f1, f2, -, -⟩ := Jvm.Free.Multi.fill_facts (T.setVm vm₁) cA comp n.toNatClampNeg k.toNatClampNeg (defaultValue ty) n.toNatClampNeg
  rw [hF, hTh] at f1 f2
  have hold : ∀ x : Nat, x < H.size → F.heap[x]? = H[x]? := fun x hx => by
    have := Jvm.Free.Multi.fill_old (T.setVm vm₁) cA comp n.toNatClampNeg k.toNatClampNeg (defaultValue ty) (a := x) (by rw [hTh]; exact hx) n.toNatClampNeg
    rw [hF, hTh] at this
    exact this
  have hrow : ∀ j : Nat, j < n.toNatClampNeg → F.heap[H.size + 1 + j]? = some (Jvm.Free.Multi.innerC comp k.toNatClampNeg (defaultValue ty)) := fun j hj => by
    have := Jvm.Free.Multi.fill_inner (T.setVm vm₁) cA comp n.toNatClampNeg k.toNatClampNeg (defaultValue ty) n.toNatClampNeg j hj
    rw [hF, hTh] at this
    exact this
  obtain ⟨t, a1, b1⟩ := kk F.heap cA comp fA fC f1 hold f2 hrow F rfl X'
  rw [hT] at step
  exact ⟨t, step t a1, b1⟩
theorem g_outer (c : ClassId) (n h0 : Nat) : ∀ i : Nat, Jvm.Free.Multi.outerC c n h0 i = arrV c n (fun j => if j < i then .ref (h0 + 1 + j) else .null)
  | 0 => by
    show ({ cls := c, slots := Array.replicate n .null, vm := .none } : Cell) = _
    rw [arrV_new]
    refine congrArg (arrV c n) (funext fun j => ?_)
    simp
  | i + 1 => by
    show (Jvm.Free.Multi.outerC c n h0 i).setSlot i (.ref (h0 + 1 + i)) = _
    rw [g_outer c n h0 i, arrV_store]
    refine congrArg (arrV c n) (funext fun j => ?_)
    by_cases e : j = i
    · subst e
      simp [updV]
    · by_cases h : j < i
      · simp [updV, e, h, Nat.lt_succ_of_lt h]
      · simp [updV, e, h, show ¬ j < i + 1 by omega]
theorem HR.grow {G : GW} {S S' : HS} {μ μ' : Mem} {H H' : Heap} {c : Nat} (h : HR G S μ H) (hn : S'.1 = S.1 + c) (hsz : H'.size = H.size + c) (ho : ∀ q : Nat, q < H.size → H'[q]? = H[q]?)
    (hk : ∀ b, b < S.1 → S'.2.2.1 b = S.2.2.1 b) (hl : ∀ b, b < S.1 → S'.2.2.2.1 b = S.2.2.2.1 b) (hm : ∀ b, b < S.1 → ∀ k, μ' b k = μ b k) (hr : ∀ b, b < S.1 → ∀ k, S'.2.2.2.2 b k = S.2.2.2.2 b k)
    (hc : ∀ b, S.1 ≤ b → S'.2.2.1 b ≠ 0 → b < S.1 + c ∧ g_cell G S' μ' b H') : HR G S' μ' H' := by
  obtain ⟨a1, a2, a3, a4, a5⟩ := h
  refine ⟨by omega, by rw [hsz]; omega, fun q hq => ?_, fun b hb => ?_, fun b hb => ?_⟩
  · rw [ho q (by omega)]
    exact a3 q hq
  · by_cases e : b < S.1
    · rw [hk b e] at hb
      have := a4 b hb
      omega
    · have := (hc b (by omega) hb).1
      omega
  · by_cases e : b < S.1
    · rw [hk b e] at hb
      obtain ⟨b1, b2⟩ := a4 b hb
      exact (a5 b hb).kept (ho _ (by rw [g_adr_hi b1]; omega)) (hk b e) (hl b e) (hm b e) (hr b e)
    · exact (hc b (by omega) hb).2
theorem ev_mul {x y : Int32} {nn kn : Nat} (hw : Cond.classLink M.1.cls idx "[[I" ∈ TW ∧ Cond.arrayClass .int ∈ TW) (hx : ¬ x < 0 ∧ x.toNatClampNeg = nn ∧ nn ≤ 1000) (hy : ¬ y < 0 ∧ y.toNatClampNeg = kn ∧ kn ≤ 1000) (hz : ∀ j k, μ (S.1 + j) k = 0 ∧ S.2.2.2.2 (S.1 + j) k = 0 ∧ S.2.2.1 (S.1 + j) = 0) (hd : decode M.2.1 pc = .ok (.multianewarray idx 2, 4)) (h1 : S.1 + 1 + nn ≤ N) (h2 : S.2.1 + nn + nn * kn ≤ Z)
    (kk : EvW G M d N Z (pc + 4) lv (.ref S.1 :: st) (S_mul S nn kn) μ K) : EvW G M d N Z pc lv (.int y :: .int x :: st) S μ K := by
  intro p l e R s m args below meth c H locs n0 z0 lsA Q C hH hn0 hz0 hN hZ hlo hl fin
  have hnx := hH.next
  have hS1 := hH.1
  have T := C.2.2.2.2.2.2.2.2.2.1.2
  have A := C.2.2.2.2.2.2.2.2.2.2.2.2.2.2.2.2.2.2.2.2.2
  refine W.mul (ty := .int) (n' := nn) (k' := kn) C.1 C.2.1 C.2.2.2.1 (C.2.2.2.2.1 _ hw.1) A (C.2.2.2.2.1 _ hw.2) hd hx.1 hy.1 hx.2.1 hy.2.1 (by omega) (by show kn * 4 ≤ _; omega) (by omega) rfl rfl (by omega) (by omega) fun H1 cA comp g1 g2 z1 o1 eo ei => ?_
  have hcA : cA = G.2.2.2.1 4 := Option.some.inj (g1.symm.trans (T 3 (G.2.2.2.1 4, .array .int) rfl).2)
  have hcI : comp = G.2.2.2.1 1 := Option.some.inj (g2.symm.trans (T 0 (G.2.2.2.1 1, .int) rfl).2)
  subst hcA
  subst hcI
  rw [g_outer] at eo
  have kw := kk p l e R s m args below meth c H1 locs n0 z0 lsA Q C (hH.grow (S' := S_mul S nn kn) (c := 1 + nn) (by show S.1 + 1 + nn = _; omega) (by rw [z1]; omega) o1 (fun b hb => ?_) (fun b hb => ?_) (fun _ _ _ => rfl) (fun b hb k => ?_) (fun b hb hb0 => ?_)) (by show n0 ≤ S.1 + 1 + nn; omega) (by show z0 ≤ S.2.1 + nn + nn * kn; omega) hN hZ hlo hl fin
  · rw [st_ref (show S.1 ≠ 0 by omega), hnx] at kw
    have ea : S.1 + 1 + nn - n0 = S.1 - n0 + 1 + nn := by omega
    have eb : S.2.1 + nn + nn * kn - z0 = S.2.1 - z0 + nn + nn * kn := by omega
    have kw2 : W p l e R s m args below meth c H1 locs (S.1 + 1 + nn - n0) (S.2.1 + nn + nn * kn - z0) Q (F0 m (pc + 4) lsA (.ref H.size :: st.map (cv G))) := kw
    rw [ea, eb] at kw2
    exact kw2
  · show (if b = S.1 then 4 else if S.1 < b ∧ b ≤ S.1 + nn then 1 else S.2.2.1 b) = _
    rw [if_neg (by omega), if_neg (by omega)]
  · show (if b = S.1 then nn else if S.1 < b ∧ b ≤ S.1 + nn then kn else S.2.2.2.1 b) = _
    rw [if_neg (by omega), if_neg (by omega)]
  · show (if b = S.1 ∧ k < nn then S.1 + 1 + k else S.2.2.2.2 b k) = _
    rw [if_neg (by omega)]
  · obtain ⟨j, rfl⟩ : ∃ j, b = S.1 + j := ⟨b - S.1, by omega⟩
    have hb0' : (if S.1 + j = S.1 then 4 else if S.1 < S.1 + j ∧ S.1 + j ≤ S.1 + nn then 1 else S.2.2.1 (S.1 + j)) ≠ 0 := hb0
    rw [(hz j 0).2.2] at hb0'
    have hjn : j ≤ nn := by
      rcases Nat.lt_or_ge nn j with q | q
      · rw [if_neg (by omega), if_neg (by omega)] at hb0'
        exact absurd rfl hb0'
      · exact q
    refine ⟨by omega, ?_⟩
    unfold g_cell
    rcases Nat.eq_zero_or_pos j with rfl | hj
    · have e1 : (S_mul S nn kn).2.2.1 (S.1 + 0) = 4 := if_pos rfl
      have e2 : (S_mul S nn kn).2.2.2.1 (S.1 + 0) = nn := if_pos rfl
      rw [if_neg (by omega), if_neg (by omega), e1, e2]
      show H1[g_adr G S.1]? = _
      rw [hnx, eo]
      congr 2
      funext j
      show _ = g_rf G (if S.1 + 0 = S.1 ∧ j < nn then S.1 + 1 + j else S.2.2.2.2 (S.1 + 0) j)
      rw [(hz 0 j).2.1]
      by_cases hj : j < nn
      · rw [if_pos hj, if_pos ⟨rfl, hj⟩]
        unfold g_rf
        have e5 : H.size + 1 + j = G.1.size + (S.1 + 1 + j - 10) := by
          rw [← hnx, g_adr_hi hS1]
          omega
        rw [if_neg (by omega), g_adr_hi (by omega), e5]
      · rw [if_neg hj, if_neg (fun z => hj z.2)]
        rfl
    · have e1 : (S_mul S nn kn).2.2.1 (S.1 + j) = 1 := by
        show (if S.1 + j = S.1 then 4 else if S.1 < S.1 + j ∧ S.1 + j ≤ S.1 + nn then 1 else S.2.2.1 (S.1 + j)) = 1
        rw [if_neg (by omega), if_pos (by omega)]
      have e2 : (S_mul S nn kn).2.2.2.1 (S.1 + j) = kn := by
        show (if S.1 + j = S.1 then nn else if S.1 < S.1 + j ∧ S.1 + j ≤ S.1 + nn then kn else S.2.2.2.1 (S.1 + j)) = kn
        rw [if_neg (by omega), if_pos (by omega)]
      rw [if_neg (by omega), if_pos (by omega), e1, e2]
      have ea : g_adr G (S.1 + j) = H.size + 1 + (j - 1) := by
        rw [g_adr_hi hS1] at hnx
        rw [g_adr_hi (by omega)]
        omega
      rw [ea, ei (j - 1) (by omega)]
      show some ({ cls := G.2.2.2.1 1, slots := Array.replicate kn (.int 0), vm := .none } : Cell) = _
      rw [arrV_new]
      congr 2
      funext k
      rw [(hz j k).1]
/-- System.arraycopy over ints -/
theorem ev_arraycopy {q0 q1 : Nat} {sp dp n : Int32} (hw : Cond.methodLink M.1.cls idx arraycopyName ∈ TW ∧ Cond.native arraycopyName ∈ TW ∧ Cond.static arraycopyName ∈ TW ∧ Cond.initialized "java/lang/System" ∈ TW) (hk0 : S.2.2.1 q0 = 1) (hk1 : S.2.2.1 q1 = 1) (h1 : ¬ sp < 0) (h2 : ¬ dp < 0) (h3 : ¬ n < 0) (h4 : sp.toNatClampNeg + n.toNatClampNeg ≤ S.2.2.2.1 q0) (h5 : dp.toNatClampNeg + n.toNatClampNeg ≤ S.2.2.2.1 q1) (hd : decode M.2.1 pc = .ok (.invokestatic idx, 3)) (hsum : (st.map fun v => v.category).sum ≤ 8) (hdd : 1 ≤ d)
    (kk : EvW G M d N Z (pc + 3) lv st S (mcpy μ q0 q1 sp.toNatClampNeg dp.toNatClampNeg n.toNatClampNeg) K) : EvW G M d N Z pc lv (.int n :: .int dp :: .ref q1 :: .int sp :: .ref q0 :: st) S μ K := by
  intro p l e R s m args below meth c H locs n0 z0 lsA Q C hH hn0 hz0 hN hZ hlo hl fin
  have nn : ∀ z : Int32, ¬ z < 0 → z.toInt = (z.toNatClampNeg : Int) := by
    intro z hz
    have hz0 : (0 : Int) ≤ z.toInt := by
      have := Int32.not_lt.mp hz
      simpa using Int32.le_iff_toInt_le.mp this
    show z.toInt = ((z.toInt.toNat : Nat) : Int)
    omega
  have z0' : S.2.2.1 q0 ≠ 0 := by omega
  have z1' : S.2.2.1 q1 ≠ 0 := by omega
  have e0 : List.map (cv G) (.int n :: .int dp :: .ref q1 :: .int sp :: .ref q0 :: st) = .int n :: .int dp :: .ref (g_adr G q1) :: .int sp :: .ref (g_adr G q0) :: st.map (cv G) := by
    show _ :: _ :: List.map (cv G) (.ref q1 :: .int sp :: .ref q0 :: st) = _
    rw [st_ref (hH.nz z1')]
    show _ :: _ :: _ :: _ :: List.map (cv G) (.ref q0 :: st) = _
    rw [st_ref (hH.nz z0')]
    rfl
  rw [e0]
  have hr := C.2.2.2.2.2.2.2.2.1
  have hc0 := hH.ints hk0 (by omega) (by omega)
  have hc1 := hH.ints hk1 (by omega) (by omega)
  have TA := (C.2.2.2.2.2.2.2.2.2.1.2 0 (G.2.2.2.1 1, .int) rfl).1
  obtain ⟨-, k0, hkk0, cm0, hkd0⟩ := TA (S.2.2.2.1 q0) (fun j => .int (μ q0 j))
  intro T hT X
  obtain ⟨vm', X', step⟩ := X.arraycopy C.1 C.2.2.2.1 (C.2.2.2.2.1 _ hw.1) (C.2.2.2.2.1 _ hw.2.1) (C.2.2.2.2.1 _ hw.2.2.1) (C.2.2.2.2.1 _ hw.2.2.2) (src := g_adr G q0) (dst := g_adr G q1) (cs := arrV (G.2.2.2.1 1) (S.2.2.2.1 q0) (fun j => .int (μ q0 j))) (cd := arrV (G.2.2.2.1 1) (S.2.2.2.1 q1) (fun j => .int (μ q1 j))) (srcPos := sp) (destPos := dp) (n := n) (by rw [hT]; exact hc0) (by rw [hT]; exact hc1)
    (fun _ h => by cases h) (fun _ h => by cases h) (fun h => by cases h) (fun h => by cases h) hkk0 hkk0 hkd0 hkd0 (by simp [refKind]) h1 h2 h3
    (by rw [nn sp h1, nn n h3]; show ¬ _ > (((arrV _ _ _).slots.size : Nat) : Int); rw [arrV_size]; omega)
    (by rw [nn dp h2, nn n h3]; show ¬ _ > (((arrV _ _ _).slots.size : Nat) : Int); rw [arrV_size]; omega)
    (fun vm₁ _ i hi => by
      have e9 : (arrV (G.2.2.2.1 1) (S.2.2.2.1 q0) (fun j => .int (μ q0 j))).slots.getD (sp.toNatClampNeg + i) .null = .int (μ q0 (sp.toNatClampNeg + i)) := by
        rw [Array.getD_eq_getD_getElem?, arrV_read _ _ (by omega)]
        rfl
      refine ⟨?_, ?_⟩
      · rw [e9]
        rfl
      · rw [e9]
        exact trivial)
    (g := F0 m pc lsA (.int n :: .int dp :: .ref (g_adr G q1) :: .int sp :: .ref (g_adr G q0) :: st.map (cv G))) rfl (by show lsA.size = _; rw [hl.1, C.2.2.1]) (rest := st.map (cv G)) rfl (by rw [C.2.1]; exact hd) (by omega) (by
      have e8 : nativeFrameWords "java/lang/System" "arraycopy" 5 + 11 + 8 ≤ 64 := by decide +kernel
      show 2 * 0 + ((st.map (cv G)).map fun v => v.category).sum + (nativeFrameWords "java/lang/System" "arraycopy" 5 + 11) ≤ _
      rw [g_cat]
      omega)
  have ec : copied (arrV (G.2.2.2.1 1) (S.2.2.2.1 q0) (fun j => .int (μ q0 j))) (arrV (G.2.2.2.1 1) (S.2.2.2.1 q1) (fun j => .int (μ q1 j))) sp dp n = arrV (G.2.2.2.1 1) (S.2.2.2.1 q1) (fun j => .int (va_cpy (μ q0) (μ q1) sp.toNatClampNeg dp.toNatClampNeg n.toNatClampNeg j)) := va_copied (fun z => .int z) _ _ (μ q0) (μ q1) h4
  rw [ec] at X' step
  have hlt : g_adr G q1 < H.size := (Array.getElem?_eq_some_iff.mp hc1).1
  generalize hH1 : H.setIfInBounds (g_adr G q1) (arrV (G.2.2.2.1 1) (S.2.2.2.1 q1) (fun j => .int (va_cpy (μ q0) (μ q1) sp.toNatClampNeg dp.toNatClampNeg n.toNatClampNeg j))) = H1
  have hheap : ((T.setVm vm').setCell (g_adr G q1) (arrV (G.2.2.2.1 1) (S.2.2.2.1 q1) (fun j => .int (va_cpy (μ q0) (μ q1) sp.toNatClampNeg dp.toNatClampNeg n.toNatClampNeg j)))).heap = H1 := by rw [← hH1, ← hT]; rfl
  have hHR : HR G S (mcpy μ q0 q1 sp.toNatClampNeg dp.toNatClampNeg n.toNatClampNeg) H1 := by
    refine hH.put (a := q1) z1' (by rw [← hH1]; simp) (fun q hq => by rw [← hH1]; simp [Array.getElem?_setIfInBounds, Ne.symm hq]) rfl rfl rfl (fun b hb k => if_neg hb) (fun _ _ _ => rfl) ?_
    unfold g_cell
    rw [if_neg (by omega), if_pos (by omega), hk1, ← hH1]
    simp [Array.getElem?_setIfInBounds, hlt, mcpy]
  obtain ⟨t, a1, b1⟩ := kk p l e R s m args below meth c H1 _ n0 z0 lsA Q C hHR hn0 hz0 hN hZ (fun q hq => by
    rcases List.mem_append.mp hq with h | h
    · exact hlo q h
    · obtain ⟨z, -, hz⟩ := List.mem_map.mp h
      rw [← hz]
      show G.1.size ≤ g_adr G q1
      rw [g_adr_hi (hH.2.2.2.1 q1 z1').1]
      omega) hl fin _ hheap X'
  exact ⟨t, step t a1, b1⟩
end EVM
