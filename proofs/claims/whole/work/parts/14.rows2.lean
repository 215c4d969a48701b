/-! ===== rows behind both constructors ===== -/
def bi (b : Bool) : Int32 := if b then 1 else 0
theorem bi_t : bi true = 1 := rfl
theorem bi_f : bi false = 0 := rfl
theorem bi_0 {b : Bool} : bi b = 0 ↔ b = false := by cases b <;> simp [bi]
theorem bi_n0 {b : Bool} : ¬ bi b = 0 ↔ b = true := by cases b <;> simp [bi]
theorem bi_1 {b : Bool} : bi b = 1 ↔ b = true := by cases b <;> simp [bi]
theorem nb_bi (b : Bool) : narrow .boolean (.int (bi b)) = .int (bi b) := by cases b <;> rfl
theorem hcl_0 : ∀ r : vw_C, vwCl[0]? = some r → r.1 = RX0 := fun r h => by cases h; rfl
theorem hcl_2 : ∀ r : vw_C, vwCl[2]? = some r → r.1 = RX2 := fun r h => by cases h; rfl
theorem hcl_3 : ∀ r : vw_C, vwCl[3]? = some r → r.1 = RX3 := fun r h => by cases h; rfl
theorem hcl_4 : ∀ r : vw_C, vwCl[4]? = some r → r.1 = RX4 := fun r h => by cases h; rfl
theorem hcl_5 : ∀ r : vw_C, vwCl[5]? = some r → r.1 = RX5 := fun r h => by cases h; rfl
theorem hcl_6 : ∀ r : vw_C, vwCl[6]? = some r → r.1 = RX6 := fun r h => by cases h; rfl
theorem hcl_7 : ∀ r : vw_C, vwCl[7]? = some r → r.1 = RX7 := fun r h => by cases h; rfl
theorem hcl_8 : ∀ r : vw_C, vwCl[8]? = some r → r.1 = RX8 := fun r h => by cases h; rfl
section EV2
variable {G : GW} {M M' : MK} {d d' N Z pc n idx : Nat} {lv : List (Nat × Value)} {st as stk : List Value} {S : HS} {μ μ1 : Mem} {K : Option Value → HS → Mem → Prop} {K2 : Option Value → Mem → Prop}
theorem ev_getI' {a idx ci k : Nat} {v : Int32} (hF : FL M.1.cls idx ci k) (hty : (c_ty ci k).isReference = false) (hk : S.2.2.1 a = 10 + ci) (hv : μ a k = v) (hd : decode M.2.1 pc = .ok (.getfield idx, 3)) (kk : EvW G M d N Z (pc + 3) lv (.int v :: st) S μ K) : EvW G M d N Z pc lv (.ref a :: st) S μ K := by
  subst hv
  exact ev_getI hF hty hk hd kk
theorem ev_getR' {a idx ci k b : Nat} (hF : FL M.1.cls idx ci k) (hty : (c_ty ci k).isReference = true) (hk : S.2.2.1 a = 10 + ci) (hb : S.2.2.2.2 a k = b) (hd : decode M.2.1 pc = .ok (.getfield idx, 3)) (kk : EvW G M d N Z (pc + 3) lv (.ref b :: st) S μ K) : EvW G M d N Z pc lv (.ref a :: st) S μ K := by
  subst hb
  exact ev_getR hF hty hk hd kk
theorem ev_iaload' {q n : Nat} {i v : Int32} (hk : S.2.2.1 q = 1) (hn : S.2.2.2.1 q = n) (hin : vp_in i n) (hv : μ q i.toNatClampNeg = v) (hd : decode M.2.1 pc = .ok (.iaload, 1)) (kk : EvW G M d N Z (pc + 1) lv (.int v :: st) S μ K) : EvW G M d N Z pc lv (.int i :: .ref q :: st) S μ K := by
  subst hv
  exact ev_iaload hk (by rw [hn]; exact hin) hd kk
theorem ev_zaload' {q n : Nat} {i v : Int32} (hk : S.2.2.1 q = 2) (hn : S.2.2.2.1 q = n) (hin : vp_in i n) (hv : μ q i.toNatClampNeg = v) (hd : decode M.2.1 pc = .ok (.baload, 1)) (kk : EvW G M d N Z (pc + 1) lv (.int v :: st) S μ K) : EvW G M d N Z pc lv (.int i :: .ref q :: st) S μ K := by
  subst hv
  exact ev_zaload hk (by rw [hn]; exact hin) hd kk
theorem ev_caload' {q n : Nat} {i v : Int32} (hk : S.2.2.1 q = 3) (hn : S.2.2.2.1 q = n) (hin : vp_in i n) (hv : μ q i.toNatClampNeg = v) (hd : decode M.2.1 pc = .ok (.caload, 1)) (kk : EvW G M d N Z (pc + 1) lv (.int v :: st) S μ K) : EvW G M d N Z pc lv (.int i :: .ref q :: st) S μ K := by
  subst hv
  exact ev_caload hk (by rw [hn]; exact hin) hd kk
theorem ev_aaload' {q k n b : Nat} {i : Int32} (hk : S.2.2.1 q = k) (h4 : 4 ≤ k ∧ k ≤ 7) (hn : S.2.2.2.1 q = n) (hin : vp_in i n) (hb : S.2.2.2.2 q i.toNatClampNeg = b) (hd : decode M.2.1 pc = .ok (.aaload, 1)) (kk : EvW G M d N Z (pc + 1) lv (.ref b :: st) S μ K) : EvW G M d N Z pc lv (.int i :: .ref q :: st) S μ K := by
  subst hb
  exact ev_aaload hk h4 (by rw [hn]; exact hin) hd kk
theorem ev_iastore' {q n j : Nat} {i x : Int32} (hk : S.2.2.1 q = 1) (hn : S.2.2.2.1 q = n) (hin : vp_in i n) (hj : i.toNatClampNeg = j) (hd : decode M.2.1 pc = .ok (.iastore, 1)) (kk : EvW G M d N Z (pc + 1) lv st S (mset μ q j x) K) : EvW G M d N Z pc lv (.int x :: .int i :: .ref q :: st) S μ K := by
  subst hj
  exact ev_iastore hk (by rw [hn]; exact hin) hd kk
theorem ev_zastore' {q n j : Nat} {i x : Int32} (hk : S.2.2.1 q = 2) (hn : S.2.2.2.1 q = n) (hin : vp_in i n) (hj : i.toNatClampNeg = j) (hx : narrow .boolean (.int x) = .int x) (hd : decode M.2.1 pc = .ok (.bastore, 1)) (kk : EvW G M d N Z (pc + 1) lv st S (mset μ q j x) K) : EvW G M d N Z pc lv (.int x :: .int i :: .ref q :: st) S μ K := by
  subst hj
  exact ev_zastore hk (by rw [hn]; exact hin) hx hd kk
theorem ev_castore' {q n j : Nat} {i x : Int32} (hk : S.2.2.1 q = 3) (hn : S.2.2.2.1 q = n) (hin : vp_in i n) (hj : i.toNatClampNeg = j) (hx : narrow .char (.int x) = .int x) (hd : decode M.2.1 pc = .ok (.castore, 1)) (kk : EvW G M d N Z (pc + 1) lv st S (mset μ q j x) K) : EvW G M d N Z pc lv (.int x :: .int i :: .ref q :: st) S μ K := by
  subst hj
  exact ev_castore hk (by rw [hn]; exact hin) hx hd kk
theorem ev_alen' {q n : Nat} {v : Int32} (hk : S.2.2.1 q ≠ 0 ∧ S.2.2.1 q ≤ 7) (hn : S.2.2.2.1 q = n) (hv : nI n = v) (hd : decode M.2.1 pc = .ok (.arraylength, 1)) (kk : EvW G M d N Z (pc + 1) lv (.int v :: st) S μ K) : EvW G M d N Z pc lv (.ref q :: st) S μ K := by
  subst hv
  subst hn
  exact ev_arraylength hk hd kk
theorem ev_top {x : Int32} (k : ∀ y : Int32, y = x → EvW G M d N Z pc lv (.int y :: st) S μ K) : EvW G M d N Z pc lv (.int x :: st) S μ K := k x rfl
theorem ev_topl {x : Int64} (k : ∀ y : Int64, y = x → EvW G M d N Z pc lv (.long y :: st) S μ K) : EvW G M d N Z pc lv (.long x :: st) S μ K := k x rfl
theorem ev_ifne_bi {b : Bool} {off : Int} {tgt : Nat} (hd : decode M.2.1 pc = .ok (.ifCond .ne off, 3)) (ht : (pc : Int) + off = (tgt : Int)) (kt : b = true → EvW G M d N Z tgt lv st S μ K) (kf : b = false → EvW G M d N Z (pc + 3) lv st S μ K) : EvW G M d N Z pc lv (.int (bi b) :: st) S μ K := ev_if_ne hd ht (fun q => kt (bi_n0.mp q)) (fun q => kf (bi_0.mp q))
theorem ev_ifeq_bi {b : Bool} {off : Int} {tgt : Nat} (hd : decode M.2.1 pc = .ok (.ifCond .eq off, 3)) (ht : (pc : Int) + off = (tgt : Int)) (kt : b = false → EvW G M d N Z tgt lv st S μ K) (kf : b = true → EvW G M d N Z (pc + 3) lv st S μ K) : EvW G M d N Z pc lv (.int (bi b) :: st) S μ K := ev_if_eq hd ht (fun q => kt (bi_0.mp q)) (fun q => kf (bi_n0.mp q))
theorem e_b2 : (S0.1 ≤ S0.1 ∧ S0.1 ≤ S0.1) ∧ S0.2.1 ≤ S0.2.1 ∧ S0.2.1 ≤ S0.2.1 := ⟨⟨Nat.le_refl _, Nat.le_refl _⟩, Nat.le_refl _, Nat.le_refl _⟩
/-- a call of a method that answers w and leaves μ1 -/
theorem e2_callV {a ci : Nat} {w : Value} (hM : mOK M' n) (hV : Cond.instanceMethod M'.1 ∈ TW ∧ Cond.selects M'.1.cls M'.1 M'.1 ∈ TW) (hS : Cond.methodLink M.1.cls idx M'.1 ∈ TW) (hcl : ∀ r, vwCl[ci]? = some r → r.1 = M'.1.cls) (hk : S0.2.2.1 a = 10 + ci) (hd : decode M.2.1 pc = .ok (.invokevirtual idx, 3)) (hn : as.length = n) (hstk : as.reverse ++ .ref a :: st = stk) (hsum : (st.map fun v => v.category).sum ≤ 8) (hlen : (lg_sl (.ref a :: as)).length ≤ M'.2.2.1) (hdd : d' + 1 ≤ d)
    (hE : Ev2 G M' d' 0 (lv_args 0 (.ref a :: as)) [] μ (fun v μ' => v = some w ∧ μ' = μ1)) (kk : Ev2 G M d (pc + 3) lv (w :: st) μ1 K2) : Ev2 G M d pc lv stk μ K2 := by
  refine ev_callV hM hV hS hcl hk hd hn hstk hsum hlen hdd e_b2 hE ?_
  rintro v S' μ' ⟨rfl, rfl, rfl⟩ - - -
  exact kk
theorem e2_callVv {a ci : Nat} (hM : mOK M' n) (hV : Cond.instanceMethod M'.1 ∈ TW ∧ Cond.selects M'.1.cls M'.1 M'.1 ∈ TW) (hS : Cond.methodLink M.1.cls idx M'.1 ∈ TW) (hcl : ∀ r, vwCl[ci]? = some r → r.1 = M'.1.cls) (hk : S0.2.2.1 a = 10 + ci) (hd : decode M.2.1 pc = .ok (.invokevirtual idx, 3)) (hn : as.length = n) (hstk : as.reverse ++ .ref a :: st = stk) (hsum : (st.map fun v => v.category).sum ≤ 8) (hlen : (lg_sl (.ref a :: as)).length ≤ M'.2.2.1) (hdd : d' + 1 ≤ d)
    (hE : Ev2 G M' d' 0 (lv_args 0 (.ref a :: as)) [] μ (fun v μ' => v = none ∧ μ' = μ1)) (kk : Ev2 G M d (pc + 3) lv st μ1 K2) : Ev2 G M d pc lv stk μ K2 := by
  refine ev_callV hM hV hS hcl hk hd hn hstk hsum hlen hdd e_b2 hE ?_
  rintro v S' μ' ⟨rfl, rfl, rfl⟩ - - -
  exact kk
/-- a call of which a relation is known -/
theorem e2_callVr {a ci : Nat} {Rl : Int32 → Mem → Prop} (hM : mOK M' n) (hV : Cond.instanceMethod M'.1 ∈ TW ∧ Cond.selects M'.1.cls M'.1 M'.1 ∈ TW) (hS : Cond.methodLink M.1.cls idx M'.1 ∈ TW) (hcl : ∀ r, vwCl[ci]? = some r → r.1 = M'.1.cls) (hk : S0.2.2.1 a = 10 + ci) (hd : decode M.2.1 pc = .ok (.invokevirtual idx, 3)) (hn : as.length = n) (hstk : as.reverse ++ .ref a :: st = stk) (hsum : (st.map fun v => v.category).sum ≤ 8) (hlen : (lg_sl (.ref a :: as)).length ≤ M'.2.2.1) (hdd : d' + 1 ≤ d)
    (hE : Ev2 G M' d' 0 (lv_args 0 (.ref a :: as)) [] μ (fun v μ' => ∃ x, v = some (.int x) ∧ Rl x μ')) (kk : ∀ x μ', Rl x μ' → Ev2 G M d (pc + 3) lv (.int x :: st) μ' K2) : Ev2 G M d pc lv stk μ K2 := by
  refine ev_callV hM hV hS hcl hk hd hn hstk hsum hlen hdd e_b2 hE ?_
  rintro v S' μ' ⟨rfl, x, rfl, hr⟩ - - -
  exact kk x μ' hr
theorem e2_callVrv {a ci : Nat} {Rl : Mem → Prop} (hM : mOK M' n) (hV : Cond.instanceMethod M'.1 ∈ TW ∧ Cond.selects M'.1.cls M'.1 M'.1 ∈ TW) (hS : Cond.methodLink M.1.cls idx M'.1 ∈ TW) (hcl : ∀ r, vwCl[ci]? = some r → r.1 = M'.1.cls) (hk : S0.2.2.1 a = 10 + ci) (hd : decode M.2.1 pc = .ok (.invokevirtual idx, 3)) (hn : as.length = n) (hstk : as.reverse ++ .ref a :: st = stk) (hsum : (st.map fun v => v.category).sum ≤ 8) (hlen : (lg_sl (.ref a :: as)).length ≤ M'.2.2.1) (hdd : d' + 1 ≤ d)
    (hE : Ev2 G M' d' 0 (lv_args 0 (.ref a :: as)) [] μ (fun v μ' => v = none ∧ Rl μ')) (kk : ∀ μ', Rl μ' → Ev2 G M d (pc + 3) lv st μ' K2) : Ev2 G M d pc lv stk μ K2 := by
  refine ev_callV hM hV hS hcl hk hd hn hstk hsum hlen hdd e_b2 hE ?_
  rintro v S' μ' ⟨rfl, rfl, hr⟩ - - -
  exact kk μ' hr
theorem e2_callS {w : Value} (hM : mOK M' n) (hV : Cond.static M'.1 ∈ TW) (hS : Cond.methodLink M.1.cls idx M'.1 ∈ TW) (hd : decode M.2.1 pc = .ok (.invokestatic idx, 3)) (hn : as.length = n) (hstk : as.reverse ++ st = stk) (hsum : (st.map fun v => v.category).sum ≤ 8) (hlen : (lg_sl as).length ≤ M'.2.2.1) (hdd : d' + 1 ≤ d)
    (hE : Ev2 G M' d' 0 (lv_args 0 as) [] μ (fun v μ' => v = some w ∧ μ' = μ1)) (kk : Ev2 G M d (pc + 3) lv (w :: st) μ1 K2) : Ev2 G M d pc lv stk μ K2 := by
  refine ev_callS hM hV hS hd hn hstk hsum hlen hdd e_b2 hE ?_
  rintro v S' μ' ⟨rfl, rfl, rfl⟩ - - -
  exact kk
theorem e2_callSv (hM : mOK M' n) (hV : Cond.static M'.1 ∈ TW) (hS : Cond.methodLink M.1.cls idx M'.1 ∈ TW) (hd : decode M.2.1 pc = .ok (.invokestatic idx, 3)) (hn : as.length = n) (hstk : as.reverse ++ st = stk) (hsum : (st.map fun v => v.category).sum ≤ 8) (hlen : (lg_sl as).length ≤ M'.2.2.1) (hdd : d' + 1 ≤ d)
    (hE : Ev2 G M' d' 0 (lv_args 0 as) [] μ (fun v μ' => v = none ∧ μ' = μ1)) (kk : Ev2 G M d (pc + 3) lv st μ1 K2) : Ev2 G M d pc lv stk μ K2 := by
  refine ev_callS hM hV hS hd hn hstk hsum hlen hdd e_b2 hE ?_
  rintro v S' μ' ⟨rfl, rfl, rfl⟩ - - -
  exact kk
theorem e2_callSN {w : Value} {host : String} (hM : mOK M' n) (hV : Cond.static M'.1 ∈ TW) (hS : Cond.methodLinkNest M.1.cls idx M'.1 host ∈ NWl) (hd : decode M.2.1 pc = .ok (.invokestatic idx, 3)) (hn : as.length = n) (hstk : as.reverse ++ st = stk) (hsum : (st.map fun v => v.category).sum ≤ 8) (hlen : (lg_sl as).length ≤ M'.2.2.1) (hdd : d' + 1 ≤ d)
    (hE : Ev2 G M' d' 0 (lv_args 0 as) [] μ (fun v μ' => v = some w ∧ μ' = μ1)) (kk : Ev2 G M d (pc + 3) lv (w :: st) μ1 K2) : Ev2 G M d pc lv stk μ K2 := by
  refine ev_callSN hM hV hS hd hn hstk hsum hlen hdd e_b2 hE ?_
  rintro v S' μ' ⟨rfl, rfl, rfl⟩ - - -
  exact kk
end EV2
theorem nw_6_33 : Cond.methodLinkNest RX6 33 mX7_isWithin.1 RX7 ∈ NWl := by simp [NWl]
theorem nw_2_78 : Cond.methodLinkNest RX2 78 mX7_isWithin.1 RX7 ∈ NWl := by simp [NWl]
theorem nw_3_51 : Cond.methodLinkNest RX3 51 mX7_isIn.1 RX7 ∈ NWl := by simp [NWl]
theorem vp_c {i : Int32} {n : Nat} (h : decide (i < 0) = false ∧ Nat.ble n i.toNatClampNeg = false) : vp_in i n := by
  rintro (q | q)
  · exact absurd q (of_decide_eq_false h.1)
  · exact absurd (Nat.ble_eq.mpr q) (by rw [h.2]; decide)
theorem tz_ne {x k : Int32} {z : Int} (h : ¬ x = k) (hz : z = k.toInt) : ¬ x.toInt = z := fun q => h (Int32.toInt_inj.mp (q.trans hz))
