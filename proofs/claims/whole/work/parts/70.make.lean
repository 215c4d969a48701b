/-! ===== what is made at the start: the structure and the numbers as rows ===== -/
def kdS (L : List (Nat × Nat)) (a : Nat) : Nat := if a < 10 then 0 else (L.getD (a - 10) (0, 0)).1
def lnS (L : List (Nat × Nat)) (a : Nat) : Nat := if a < 10 then 0 else (L.getD (a - 10) (0, 0)).2
def rfS : List (Nat × Nat × Nat) → Nat → Nat → Nat
  | [], _, _ => 0
  | e :: R, a, k => if a = e.1 ∧ k = e.2.1 then e.2.2 else rfS R a k
def ML : List (Nat × Nat × Int32) → Nat → Nat → Int32
  | [], _, _ => 0
  | e :: E, a, k => if a = e.1 ∧ k = e.2.1 then e.2.2 else ML E a k
def SL (z : Nat) (L : List (Nat × Nat)) (R : List (Nat × Nat × Nat)) : HS := (10 + L.length, z, kdS L, lnS L, rfS R)
theorem ML_set (E : List (Nat × Nat × Int32)) (a k : Nat) (x : Int32) : mset (ML E) a k x = ML ((a, k, x) :: E) := rfl
theorem getD_app (L : List (Nat × Nat)) (x : Nat × Nat) (j : Nat) : (L ++ [x]).getD j (0, 0) = if j = L.length then x else L.getD j (0, 0) := by
  rw [List.getD_eq_getElem?_getD, List.getD_eq_getElem?_getD]
  rcases Nat.lt_trichotomy j L.length with h | h | h
  · rw [List.getElem?_append_left h, if_neg (by omega)]
  · subst h
    simp
  · rw [if_neg (by omega), List.getElem?_eq_none (by simp; omega), List.getElem?_eq_none (by omega)]
theorem kdS_app (L : List (Nat × Nat)) (x : Nat × Nat) (a : Nat) : kdS (L ++ [x]) a = if a = 10 + L.length then x.1 else kdS L a := by
  unfold kdS
  rw [getD_app]
  by_cases h : a < 10
  · rw [if_pos h, if_pos h, if_neg (by omega)]
  · rw [if_neg h, if_neg h]
    by_cases e : a = 10 + L.length
    · rw [if_pos (by omega), if_pos e]
    · rw [if_neg (by omega), if_neg e]
theorem lnS_app (L : List (Nat × Nat)) (x : Nat × Nat) (a : Nat) : lnS (L ++ [x]) a = if a = 10 + L.length then x.2 else lnS L a := by
  unfold lnS
  rw [getD_app]
  by_cases h : a < 10
  · rw [if_pos h, if_pos h, if_neg (by omega)]
  · rw [if_neg h, if_neg h]
    by_cases e : a = 10 + L.length
    · rw [if_pos (by omega), if_pos e]
    · rw [if_neg (by omega), if_neg e]
theorem getD_hi (L : List (Nat × Nat)) {j : Nat} (h : L.length ≤ j) : L.getD j (0, 0) = (0, 0) := by
  rw [List.getD_eq_getElem?_getD, List.getElem?_eq_none h]
  rfl
theorem kdS_hi {L : List (Nat × Nat)} {a : Nat} (h : 10 + L.length ≤ a) : kdS L a = 0 := by
  unfold kdS
  rw [if_neg (by omega), getD_hi L (by omega)]
theorem lnS_hi {L : List (Nat × Nat)} {a : Nat} (h : 10 + L.length ≤ a) : lnS L a = 0 := by
  unfold lnS
  rw [if_neg (by omega), getD_hi L (by omega)]
theorem kdS_nz {L : List (Nat × Nat)} {a k : Nat} (h : kdS L a = k + 1) : a ≠ 0 ∧ a < 10 + L.length := by
  constructor
  · rintro rfl
    cases h
  · rcases Nat.lt_or_ge a (10 + L.length) with q | q
    · exact q
    · rw [kdS_hi q] at h
      cases h
theorem kd_old {L : List (Nat × Nat)} {a k : Nat} {x : Nat × Nat} (h : kdS L a = k + 1) : kdS (L ++ [x]) a = k + 1 := by
  rw [kdS_app, if_neg (by have := (kdS_nz h).2; omega), h]
theorem ln_old {L : List (Nat × Nat)} {a k m : Nat} {x : Nat × Nat} (hk : kdS L a = k + 1) (h : lnS L a = m) : lnS (L ++ [x]) a = m := by
  rw [lnS_app, if_neg (by have := (kdS_nz hk).2; omega), h]
theorem rfS_hi {R : List (Nat × Nat × Nat)} {n : Nat} (h : ∀ e ∈ R, e.1 < n) {a : Nat} (ha : n ≤ a) (k : Nat) : rfS R a k = 0 := by
  induction R with
  | nil => rfl
  | cons e R ih =>
    have := h e List.mem_cons_self
    show (if a = e.1 ∧ k = e.2.1 then e.2.2 else rfS R a k) = 0
    rw [if_neg (by omega)]
    exact ih (fun e he => h e (List.mem_cons_of_mem _ he))
theorem ML_hi {R : List (Nat × Nat × Int32)} {n : Nat} (h : ∀ e ∈ R, e.1 < n) {a : Nat} (ha : n ≤ a) (k : Nat) : ML R a k = 0 := by
  induction R with
  | nil => rfl
  | cons e R ih =>
    have := h e List.mem_cons_self
    show (if a = e.1 ∧ k = e.2.1 then e.2.2 else ML R a k) = 0
    rw [if_neg (by omega)]
    exact ih (fun e he => h e (List.mem_cons_of_mem _ he))
def mulL : List (Nat × Nat) := [(4, 7), (1, 7), (1, 7), (1, 7), (1, 7), (1, 7), (1, 7), (1, 7)]
def mulR (q : Nat) : List (Nat × Nat × Nat) := [(q, 0, q + 1), (q, 1, q + 2), (q, 2, q + 3), (q, 3, q + 4), (q, 4, q + 5), (q, 5, q + 6), (q, 6, q + 7)]
theorem mulL_app (L : List (Nat × Nat)) : L ++ mulL = L ++ [(4, 7)] ++ [(1, 7)] ++ [(1, 7)] ++ [(1, 7)] ++ [(1, 7)] ++ [(1, 7)] ++ [(1, 7)] ++ [(1, 7)] := by simp [mulL]
theorem kd_mul {L : List (Nat × Nat)} {a k : Nat} (h : kdS L a = k + 1) : kdS (L ++ mulL) a = k + 1 := by
  rw [mulL_app]
  exact kd_old (kd_old (kd_old (kd_old (kd_old (kd_old (kd_old (kd_old h)))))))
def OKS (n : Nat) (L : List (Nat × Nat)) (R : List (Nat × Nat × Nat)) (E : List (Nat × Nat × Int32)) : Prop := 10 + L.length = n ∧ (∀ e ∈ R, e.1 < n) ∧ ∀ e ∈ E, e.1 < n
theorem OKS.app {n : Nat} {L : List (Nat × Nat)} {R : List (Nat × Nat × Nat)} {E : List (Nat × Nat × Int32)} {x : Nat × Nat} (h : OKS n L R E) : OKS (n + 1) (L ++ [x]) R E :=
  ⟨by rw [List.length_append]; show 10 + (L.length + 1) = n + 1; have := h.1; omega, fun e he => Nat.lt_succ_of_lt (h.2.1 e he), fun e he => Nat.lt_succ_of_lt (h.2.2 e he)⟩
theorem OKS.rf {n a k r : Nat} {L : List (Nat × Nat)} {R : List (Nat × Nat × Nat)} {E : List (Nat × Nat × Int32)} (ha : a < n) (h : OKS n L R E) : OKS n L ((a, k, r) :: R) E :=
  ⟨h.1, fun e he => (List.mem_cons.mp he).elim (fun q => by rw [q]; exact ha) (h.2.1 e), h.2.2⟩
theorem OKS.mm {n a k : Nat} {x : Int32} {L : List (Nat × Nat)} {R : List (Nat × Nat × Nat)} {E : List (Nat × Nat × Int32)} (ha : a < n) (h : OKS n L R E) : OKS n L R ((a, k, x) :: E) :=
  ⟨h.1, h.2.1, fun e he => (List.mem_cons.mp he).elim (fun q => by rw [q]; exact ha) (h.2.2 e)⟩
theorem kd_last {n : Nat} {L : List (Nat × Nat)} {R : List (Nat × Nat × Nat)} {E : List (Nat × Nat × Int32)} {x : Nat × Nat} (h : OKS n L R E) : kdS (L ++ [x]) n = x.1 := by
  rw [kdS_app, if_pos h.1.symm]
theorem ln_last {n : Nat} {L : List (Nat × Nat)} {R : List (Nat × Nat × Nat)} {E : List (Nat × Nat × Int32)} {x : Nat × Nat} (h : OKS n L R E) : lnS (L ++ [x]) n = x.2 := by
  rw [lnS_app, if_pos h.1.symm]
theorem kd_mulq {n : Nat} {L : List (Nat × Nat)} {R : List (Nat × Nat × Nat)} {E : List (Nat × Nat × Int32)} (h : OKS n L R E) : kdS (L ++ mulL) n = 3 + 1 := by
  rw [mulL_app]
  have h1 : kdS (L ++ [(4, 7)]) n = 3 + 1 := kd_last h
  exact kd_old (kd_old (kd_old (kd_old (kd_old (kd_old (kd_old h1))))))
theorem OKS.mul {n : Nat} {L : List (Nat × Nat)} {R : List (Nat × Nat × Nat)} {E : List (Nat × Nat × Int32)} (h : OKS n L R E) : OKS (n + 8) (L ++ mulL) (mulR n ++ R) E := by
  refine ⟨by rw [List.length_append]; show 10 + (L.length + 8) = n + 8; have := h.1; omega, fun e he => ?_, fun e he => by have := h.2.2 e he; omega⟩
  rcases List.mem_append.mp he with q | q
  · simp only [mulR, List.mem_cons, List.not_mem_nil, or_false] at q
    rcases q with rfl | rfl | rfl | rfl | rfl | rfl | rfl <;> (show n < n + 8; omega)
  · have := h.2.1 e q
    omega
theorem HS_ext {S T : HS} (h1 : S.1 = T.1) (h2 : S.2.1 = T.2.1) (h3 : ∀ a, S.2.2.1 a = T.2.2.1 a) (h4 : ∀ a, S.2.2.2.1 a = T.2.2.2.1 a) (h5 : ∀ a k, S.2.2.2.2 a k = T.2.2.2.2 a k) : S = T := by
  obtain ⟨s1, s2, s3, s4, s5⟩ := S
  obtain ⟨t1, t2, t3, t4, t5⟩ := T
  have e1 : s1 = t1 := h1
  have e2 : s2 = t2 := h2
  have e3 : s3 = t3 := funext h3
  have e4 : s4 = t4 := funext h4
  have e5 : s5 = t5 := funext fun a => funext fun k => h5 a k
  rw [e1, e2, e3, e4, e5]
theorem SL_new (z : Nat) (L : List (Nat × Nat)) (R : List (Nat × Nat × Nat)) (ci m : Nat) : S_new (SL z L R) ci m = SL (z + m) (L ++ [(10 + ci, 0)]) R := by
  refine HS_ext ?_ rfl (fun a => ?_) (fun a => ?_) (fun _ _ => rfl)
  · show 10 + L.length + 1 = 10 + (L ++ [(10 + ci, 0)]).length
    rw [List.length_append]
    rfl
  · exact (kdS_app L (10 + ci, 0) a).symm
  · show lnS L a = lnS (L ++ [(10 + ci, 0)]) a
    rw [lnS_app]
    by_cases e : a = 10 + L.length
    · rw [if_pos e, lnS_hi (by omega)]
    · rw [if_neg e]
theorem SL_arr (z : Nat) (L : List (Nat × Nat)) (R : List (Nat × Nat × Nat)) (k m : Nat) : S_arr (SL z L R) k m = SL (z + m) (L ++ [(k, m)]) R := by
  refine HS_ext ?_ rfl (fun a => ?_) (fun a => ?_) (fun _ _ => rfl)
  · show 10 + L.length + 1 = 10 + (L ++ [(k, m)]).length
    rw [List.length_append]
    rfl
  · exact (kdS_app L (k, m) a).symm
  · exact (lnS_app L (k, m) a).symm
theorem SL_ref (z : Nat) (L : List (Nat × Nat)) (R : List (Nat × Nat × Nat)) (a k r : Nat) : S_ref (SL z L R) a k r = SL z L ((a, k, r) :: R) := rfl
theorem SL_mul (z : Nat) (L : List (Nat × Nat)) (R : List (Nat × Nat × Nat)) {n : Nat} (hn : 10 + L.length = n) : S_mul (SL z L R) 7 7 = SL (z + 56) (L ++ mulL) (mulR n ++ R) := by
  have e : L ++ mulL = L ++ [(4, 7)] ++ [(1, 7)] ++ [(1, 7)] ++ [(1, 7)] ++ [(1, 7)] ++ [(1, 7)] ++ [(1, 7)] ++ [(1, 7)] := by simp [mulL]
  rw [e]
  refine HS_ext ?_ rfl (fun a => ?_) (fun a => ?_) (fun a j => ?_)
  · show 10 + L.length + 1 + 7 = 10 + _
    simp only [List.length_append, List.length_cons, List.length_nil]
    omega
  · show (if a = 10 + L.length then 4 else if 10 + L.length < a ∧ a ≤ 10 + L.length + 7 then 1 else kdS L a) = kdS _ a
    simp only [kdS_app, List.length_append, List.length_cons, List.length_nil]
    by_cases h1 : a < 10 + L.length
    · rw [if_neg (by omega), if_neg (by omega), if_neg (by omega), if_neg (by omega), if_neg (by omega), if_neg (by omega), if_neg (by omega), if_neg (by omega), if_neg (by omega), if_neg (by omega)]
    · by_cases h2 : 10 + L.length + 7 < a
      · rw [if_neg (by omega), if_neg (by omega), if_neg (by omega), if_neg (by omega), if_neg (by omega), if_neg (by omega), if_neg (by omega), if_neg (by omega), if_neg (by omega), if_neg (by omega)]
      · obtain ⟨j, rfl⟩ : ∃ j, a = 10 + L.length + j := ⟨a - (10 + L.length), by omega⟩
        rcases (show j = 0 ∨ j = 1 ∨ j = 2 ∨ j = 3 ∨ j = 4 ∨ j = 5 ∨ j = 6 ∨ j = 7 by omega) with rfl | rfl | rfl | rfl | rfl | rfl | rfl | rfl <;> (repeat' first | rw [if_pos (by omega)] | rw [if_neg (by omega)])
  · show (if a = 10 + L.length then 7 else if 10 + L.length < a ∧ a ≤ 10 + L.length + 7 then 7 else lnS L a) = lnS _ a
    simp only [lnS_app, List.length_append, List.length_cons, List.length_nil]
    by_cases h1 : a < 10 + L.length
    · rw [if_neg (by omega), if_neg (by omega), if_neg (by omega), if_neg (by omega), if_neg (by omega), if_neg (by omega), if_neg (by omega), if_neg (by omega), if_neg (by omega), if_neg (by omega)]
    · by_cases h2 : 10 + L.length + 7 < a
      · rw [if_neg (by omega), if_neg (by omega), if_neg (by omega), if_neg (by omega), if_neg (by omega), if_neg (by omega), if_neg (by omega), if_neg (by omega), if_neg (by omega), if_neg (by omega)]
      · obtain ⟨j, rfl⟩ : ∃ j, a = 10 + L.length + j := ⟨a - (10 + L.length), by omega⟩
        rcases (show j = 0 ∨ j = 1 ∨ j = 2 ∨ j = 3 ∨ j = 4 ∨ j = 5 ∨ j = 6 ∨ j = 7 by omega) with rfl | rfl | rfl | rfl | rfl | rfl | rfl | rfl <;> (repeat' first | rw [if_pos (by omega)] | rw [if_neg (by omega)])
  · show (if a = 10 + L.length ∧ j < 7 then 10 + L.length + 1 + j else rfS R a j) = rfS (mulR n ++ R) a j
    subst hn
    show _ = (if a = 10 + L.length ∧ j = 0 then 10 + L.length + 1 else if a = 10 + L.length ∧ j = 1 then 10 + L.length + 2 else if a = 10 + L.length ∧ j = 2 then 10 + L.length + 3 else if a = 10 + L.length ∧ j = 3 then 10 + L.length + 4 else if a = 10 + L.length ∧ j = 4 then 10 + L.length + 5 else if a = 10 + L.length ∧ j = 5 then 10 + L.length + 6 else if a = 10 + L.length ∧ j = 6 then 10 + L.length + 7 else rfS R a j)
    by_cases h1 : a = 10 + L.length ∧ j < 7
    · obtain ⟨rfl, hj⟩ := h1
      rcases (show j = 0 ∨ j = 1 ∨ j = 2 ∨ j = 3 ∨ j = 4 ∨ j = 5 ∨ j = 6 by omega) with rfl | rfl | rfl | rfl | rfl | rfl | rfl <;> simp
    · rw [if_neg h1, if_neg (by omega), if_neg (by omega), if_neg (by omega), if_neg (by omega), if_neg (by omega), if_neg (by omega), if_neg (by omega)]
section MK
variable {G : GW} {M M' : MK} {d d' N Z N' Z' pc n n' idx z : Nat} {lv : List (Nat × Value)} {st as stk : List Value} {L : List (Nat × Nat)} {R : List (Nat × Nat × Nat)} {E : List (Nat × Nat × Int32)} {S1 : HS} {μ1 : Mem} {K : Option Value → HS → Mem → Prop}
theorem mk_objInit {a k : Nat} (hw : Cond.methodLink M.1.cls idx objectInit ∈ TW ∧ Cond.instanceMethod objectInit ∈ TW ∧ Cond.code objectInit ⟨#[0xb1]⟩ 1 none ∈ TW) (hk : kdS L a = k + 1) (hd : decode M.2.1 pc = .ok (.invokespecial idx, 3)) (hsum : (st.map fun v => v.category).sum ≤ 8) (hdd : 1 ≤ d) (kk : EvW G M d N Z (pc + 3) lv st (SL z L R) (ML E) K) : EvW G M d N Z pc lv (.ref a :: st) (SL z L R) (ML E) K :=
  ev_objInit hw (by show kdS L a ≠ 0; rw [hk]; exact Nat.succ_ne_zero _) hd hsum hdd kk
theorem mk_new {ci nf : Nat} {r : vw_C} (h : OKS n L R E) (hr : vwCl[ci]? = some r) (hnf : r.2.2 = nf) (hw : Cond.classLink M.1.cls idx r.1 ∈ TW ∧ Cond.instantiable r.1 r.2.2 ∈ TW ∧ Cond.initialized r.1 ∈ TW) (hdv : ∀ k, k < r.2.2 → defaultValue (c_ty ci k) = if (c_ty ci k).isReference then .null else .int 0) (hd : decode M.2.1 pc = .ok (.new idx, 3)) (hn : n + 1 = n') (h1 : n' ≤ N) (h2 : z + nf ≤ Z)
    (kk : OKS n' (L ++ [(10 + ci, 0)]) R E → EvW G M d N Z (pc + 3) lv (.ref n :: st) (SL (z + nf) (L ++ [(10 + ci, 0)]) R) (ML E) K) : EvW G M d N Z pc lv st (SL z L R) (ML E) K := by
  subst hn
  subst hnf
  refine ev_new hr hw hdv (fun k => ⟨ML_hi h.2.2 (by have := h.1; show n ≤ 10 + L.length; omega) k, rfS_hi h.2.1 (by have := h.1; show n ≤ 10 + L.length; omega) k⟩) hd (by have := h.1; show 10 + L.length + 1 ≤ N; omega) h2 ?_
  rw [SL_new, show (SL z L R).1 = n from h.1]
  exact kk h.app
theorem mk_arr {k nn : Nat} {atype : ArrayType} {x : Int32} (h : OKS n L R E) (ht : (k = 1 ∧ atype = .int) ∨ (k = 2 ∧ atype = .boolean) ∨ (k = 3 ∧ atype = .char)) (hw : Cond.arrayClass (newarray.typeOf atype) ∈ TW) (hx : ¬ x < 0 ∧ x.toNatClampNeg = nn ∧ nn ≤ 100000) (hd : decode M.2.1 pc = .ok (.newarray atype, 2)) (hn : n + 1 = n') (h1 : n' ≤ N) (h2 : z + nn ≤ Z)
    (kk : OKS n' (L ++ [(k, nn)]) R E → EvW G M d N Z (pc + 2) lv (.ref n :: st) (SL (z + nn) (L ++ [(k, nn)]) R) (ML E) K) : EvW G M d N Z pc lv (.int x :: st) (SL z L R) (ML E) K := by
  subst hn
  refine ev_newarray ht hw hx (fun k => ML_hi h.2.2 (by have := h.1; show n ≤ 10 + L.length; omega) k) hd (by have := h.1; show 10 + L.length + 1 ≤ N; omega) h2 ?_
  rw [SL_arr, show (SL z L R).1 = n from h.1]
  exact kk h.app
theorem mk_anew {k ci nn : Nat} {r : vw_C} {x : Int32} (h : OKS n L R E) (hr : vwCl[ci]? = some r) (hkc : (k = 5 ∧ ci = 0) ∨ (k = 6 ∧ ci = 6) ∨ (k = 7 ∧ ci = 4)) (hw : Cond.classLink M.1.cls idx r.1 ∈ TW) (hx : ¬ x < 0 ∧ x.toNatClampNeg = nn ∧ nn ≤ 100000) (hd : decode M.2.1 pc = .ok (.anewarray idx, 3)) (hn : n + 1 = n') (h1 : n' ≤ N) (h2 : z + nn ≤ Z)
    (kk : OKS n' (L ++ [(k, nn)]) R E → EvW G M d N Z (pc + 3) lv (.ref n :: st) (SL (z + nn) (L ++ [(k, nn)]) R) (ML E) K) : EvW G M d N Z pc lv (.int x :: st) (SL z L R) (ML E) K := by
  subst hn
  refine ev_anewarray hr hkc hw hx (fun k => rfS_hi h.2.1 (by have := h.1; show n ≤ 10 + L.length; omega) k) hd (by have := h.1; show 10 + L.length + 1 ≤ N; omega) h2 ?_
  rw [SL_arr, show (SL z L R).1 = n from h.1]
  exact kk h.app
theorem mk_mul {x y : Int32} (h : OKS n L R E) (hw : Cond.classLink M.1.cls idx "[[I" ∈ TW ∧ Cond.arrayClass .int ∈ TW) (hx : x = 7 ∧ y = 7) (hd : decode M.2.1 pc = .ok (.multianewarray idx 2, 4)) (h1 : n + 8 ≤ N) (h2 : z + 56 ≤ Z)
    (kk : EvW G M d N Z (pc + 4) lv (.ref n :: st) (SL (z + 56) (L ++ mulL) (mulR n ++ R)) (ML E) K) : EvW G M d N Z pc lv (.int y :: .int x :: st) (SL z L R) (ML E) K := by
  obtain ⟨rfl, rfl⟩ := hx
  have hl := h.1
  refine ev_mul (nn := 7) (kn := 7) hw ⟨by decide, rfl, by omega⟩ ⟨by decide, rfl, by omega⟩ (fun j k => ⟨ML_hi h.2.2 (by show n ≤ 10 + L.length + j; omega) k, rfS_hi h.2.1 (by show n ≤ 10 + L.length + j; omega) k, kdS_hi (by show 10 + L.length ≤ 10 + L.length + j; omega)⟩) hd (by show 10 + L.length + 1 + 7 ≤ N; omega) (by show z + 7 + 7 * 7 ≤ Z; omega) ?_
  rw [SL_mul z L R hl, show (SL z L R).1 = n from hl]
  exact kk
theorem mk_putI {a ci k : Nat} {x : Int32} (hF : FL M.1.cls idx ci k) (hty : narrow (c_ty ci k) (.int x) = .int x ∧ fits (c_ty ci k) (.int x) = true ∧ (c_ty ci k).isReference = false) (hfin : ∀ r, vwCl[ci]? = some r → (r.2.1 k).2.2.2 = false) (hk : kdS L a = 10 + ci) (hd : decode M.2.1 pc = .ok (.putfield idx, 3)) (kk : EvW G M d N Z (pc + 3) lv st (SL z L R) (ML ((a, k, x) :: E)) K) : EvW G M d N Z pc lv (.int x :: .ref a :: st) (SL z L R) (ML E) K :=
  ev_putI hF hty hfin hk hd kk
theorem mk_putR {a b ci k j : Nat} (hF : FL M.1.cls idx ci k) (hty : (c_ty ci k).isReference = true) (hfin : ∀ r, vwCl[ci]? = some r → (r.2.1 k).2.2.2 = true ∧ (r.2.1 k).1 = M.1.cls) (hin : M.1.name = "<init>") (hk : kdS L a = 10 + ci) (hb : kdS L b = j + 1) (hd : decode M.2.1 pc = .ok (.putfield idx, 3)) (kk : EvW G M d N Z (pc + 3) lv st (SL z L ((a, k, b) :: R)) (ML E) K) : EvW G M d N Z pc lv (.ref b :: .ref a :: st) (SL z L R) (ML E) K :=
  ev_putR hF hty hfin hin hk (by show kdS L b ≠ 0; rw [hb]; exact Nat.succ_ne_zero _) hd kk
theorem mk_getR {a ci k b : Nat} (hF : FL M.1.cls idx ci k) (hty : (c_ty ci k).isReference = true) (hk : kdS L a = 10 + ci) (hb : rfS R a k = b) (hd : decode M.2.1 pc = .ok (.getfield idx, 3)) (kk : EvW G M d N Z (pc + 3) lv (.ref b :: st) (SL z L R) (ML E) K) : EvW G M d N Z pc lv (.ref a :: st) (SL z L R) (ML E) K :=
  ev_getR' (S := SL z L R) hF hty hk hb hd kk
theorem mk_ist {q m j : Nat} {i x : Int32} (hk : kdS L q = 1) (hn : lnS L q = m) (hin : vp_in i m) (hj : i.toNatClampNeg = j) (hd : decode M.2.1 pc = .ok (.iastore, 1)) (kk : EvW G M d N Z (pc + 1) lv st (SL z L R) (ML ((q, j, x) :: E)) K) : EvW G M d N Z pc lv (.int x :: .int i :: .ref q :: st) (SL z L R) (ML E) K :=
  ev_iastore' (S := SL z L R) hk hn hin hj hd kk
theorem mk_cst {q m j : Nat} {i x : Int32} (hk : kdS L q = 3) (hn : lnS L q = m) (hin : vp_in i m) (hj : i.toNatClampNeg = j) (hx : narrow .char (.int x) = .int x) (hd : decode M.2.1 pc = .ok (.castore, 1)) (kk : EvW G M d N Z (pc + 1) lv st (SL z L R) (ML ((q, j, x) :: E)) K) : EvW G M d N Z pc lv (.int x :: .int i :: .ref q :: st) (SL z L R) (ML E) K :=
  ev_castore' (S := SL z L R) hk hn hin hj hx hd kk
theorem mk_ast {q b k ci m j : Nat} {i : Int32} (hk : kdS L q = k) (hn : lnS L q = m) (hkc : (k = 5 ∧ ci = 0) ∨ (k = 6 ∧ ci = 6) ∨ (k = 7 ∧ ci = 4)) (hb : kdS L b = 10 + ci) (hin : vp_in i m) (hj : i.toNatClampNeg = j) (hd : decode M.2.1 pc = .ok (.aastore, 1)) (kk : EvW G M d N Z (pc + 1) lv st (SL z L ((q, j, b) :: R)) (ML E) K) : EvW G M d N Z pc lv (.ref b :: .int i :: .ref q :: st) (SL z L R) (ML E) K := by
  subst hj
  exact ev_aastore (S := SL z L R) hk hkc hb (by show vp_in i (lnS L q); rw [hn]; exact hin) hd kk
theorem mk_callI {a k : Nat} (hM : mOK M' 0) (hi : M'.1.name = "<init>" ∧ M'.2.2.2 = none) (hV : Cond.instanceMethod M'.1 ∈ TW) (hS : Cond.methodLink M.1.cls idx M'.1 ∈ TW) (hk : kdS L a = k + 1) (hd : decode M.2.1 pc = .ok (.invokespecial idx, 3)) (hsum : (st.map fun v => v.category).sum ≤ 8) (hlen : 1 ≤ M'.2.2.1) (hdd : d' + 1 ≤ d)
    (hE : EvW G M' d' N' Z' 0 [(0, .ref a)] [] (SL z L R) (ML E) (fun v S' μ' => v = none ∧ S' = S1 ∧ μ' = μ1)) (hb : (10 + L.length ≤ N' ∧ N' ≤ N) ∧ z ≤ Z' ∧ Z' ≤ Z) (kk : EvW G M d N Z (pc + 3) lv st S1 μ1 K) : EvW G M d N Z pc lv (.ref a :: st) (SL z L R) (ML E) K := by
  refine ev_callI (as := []) (st := st) hM hi hV hS (by show kdS L a ≠ 0; rw [hk]; exact Nat.succ_ne_zero _) hd rfl rfl hsum hlen hdd hb hE ?_
  rintro v S' μ' ⟨rfl, rfl, rfl⟩ - - -
  exact kk
theorem mk_callIN {a k : Nat} {host : String} (hM : mOK M' 0) (hi : M'.1.name = "<init>" ∧ M'.2.2.2 = none) (hV : Cond.instanceMethod M'.1 ∈ TW) (hS : Cond.methodLinkNest M.1.cls idx M'.1 host ∈ NWl) (hk : kdS L a = k + 1) (hd : decode M.2.1 pc = .ok (.invokespecial idx, 3)) (hsum : (st.map fun v => v.category).sum ≤ 8) (hlen : 1 ≤ M'.2.2.1) (hdd : d' + 1 ≤ d)
    (hE : EvW G M' d' N' Z' 0 [(0, .ref a)] [] (SL z L R) (ML E) (fun v S' μ' => v = none ∧ S' = S1 ∧ μ' = μ1)) (hb : (10 + L.length ≤ N' ∧ N' ≤ N) ∧ z ≤ Z' ∧ Z' ≤ Z) (kk : EvW G M d N Z (pc + 3) lv st S1 μ1 K) : EvW G M d N Z pc lv (.ref a :: st) (SL z L R) (ML E) K := by
  refine ev_callIN (as := []) (st := st) hM hi hV hS (by show kdS L a ≠ 0; rw [hk]; exact Nat.succ_ne_zero _) hd rfl rfl hsum hlen hdd hb hE ?_
  rintro v S' μ' ⟨rfl, rfl, rfl⟩ - - -
  exact kk
theorem mk_return {S : HS} {μ : Mem} (hd : decode M.2.1 pc = .ok (.return_, 1)) (hr : M.2.2.2 = none) (h1 : S.1 = N) (h2 : S.2.1 = Z) (e1 : S = S1) (e2 : μ = μ1) : EvW G M d N Z pc lv [] S μ (fun v S' μ' => v = none ∧ S' = S1 ∧ μ' = μ1) := ev_return hd hr h1 h2 ⟨rfl, e1, e2⟩
end MK
theorem dv_0 : ∀ k, k < 9 → defaultValue (c_ty 0 k) = if (c_ty 0 k).isReference then .null else .int 0 := by
  intro k hk
  rcases (show k = 0 ∨ k = 1 ∨ k = 2 ∨ k = 3 ∨ k = 4 ∨ k = 5 ∨ k = 6 ∨ k = 7 ∨ k = 8 by omega) with rfl | rfl | rfl | rfl | rfl | rfl | rfl | rfl | rfl <;> rfl
theorem dv_1 : ∀ k, k < 6 → defaultValue (c_ty 1 k) = if (c_ty 1 k).isReference then .null else .int 0 := by
  intro k hk
  rcases (show k = 0 ∨ k = 1 ∨ k = 2 ∨ k = 3 ∨ k = 4 ∨ k = 5 by omega) with rfl | rfl | rfl | rfl | rfl | rfl <;> rfl
theorem dv_2 : ∀ k, k < 3 → defaultValue (c_ty 2 k) = if (c_ty 2 k).isReference then .null else .int 0 := by
  intro k hk
  rcases (show k = 0 ∨ k = 1 ∨ k = 2 by omega) with rfl | rfl | rfl <;> rfl
theorem dv_3 : ∀ k, k < 8 → defaultValue (c_ty 3 k) = if (c_ty 3 k).isReference then .null else .int 0 := by
  intro k hk
  rcases (show k = 0 ∨ k = 1 ∨ k = 2 ∨ k = 3 ∨ k = 4 ∨ k = 5 ∨ k = 6 ∨ k = 7 by omega) with rfl | rfl | rfl | rfl | rfl | rfl | rfl | rfl <;> rfl
theorem dv_4 : ∀ k, k < 3 → defaultValue (c_ty 4 k) = if (c_ty 4 k).isReference then .null else .int 0 := by
  intro k hk
  rcases (show k = 0 ∨ k = 1 ∨ k = 2 by omega) with rfl | rfl | rfl <;> rfl
theorem dv_5 : ∀ k, k < 5 → defaultValue (c_ty 5 k) = if (c_ty 5 k).isReference then .null else .int 0 := by
  intro k hk
  rcases (show k = 0 ∨ k = 1 ∨ k = 2 ∨ k = 3 ∨ k = 4 by omega) with rfl | rfl | rfl | rfl | rfl <;> rfl
theorem dv_6 : ∀ k, k < 4 → defaultValue (c_ty 6 k) = if (c_ty 6 k).isReference then .null else .int 0 := by
  intro k hk
  rcases (show k = 0 ∨ k = 1 ∨ k = 2 ∨ k = 3 by omega) with rfl | rfl | rfl | rfl <;> rfl
theorem dv_7 : ∀ k, k < 13 → defaultValue (c_ty 7 k) = if (c_ty 7 k).isReference then .null else .int 0 := by
  intro k hk
  rcases (show k = 0 ∨ k = 1 ∨ k = 2 ∨ k = 3 ∨ k = 4 ∨ k = 5 ∨ k = 6 ∨ k = 7 ∨ k = 8 ∨ k = 9 ∨ k = 10 ∨ k = 11 ∨ k = 12 by omega) with rfl | rfl | rfl | rfl | rfl | rfl | rfl | rfl | rfl | rfl | rfl | rfl | rfl <;> rfl
theorem dv_8 : ∀ k, k < 49 → defaultValue (c_ty 8 k) = if (c_ty 8 k).isReference then .null else .int 0 := by
  intro k hk
  rcases (show k = 0 ∨ k = 1 ∨ k = 2 ∨ k = 3 ∨ k = 4 ∨ k = 5 ∨ k = 6 ∨ k = 7 ∨ k = 8 ∨ k = 9 ∨ k = 10 ∨ k = 11 ∨ k = 12 ∨ k = 13 ∨ k = 14 ∨ k = 15 ∨ k = 16 ∨ k = 17 ∨ k = 18 ∨ k = 19 ∨ k = 20 ∨ k = 21 ∨ k = 22 ∨ k = 23 ∨ k = 24 ∨ k = 25 ∨ k = 26 ∨ k = 27 ∨ k = 28 ∨ k = 29 ∨ k = 30 ∨ k = 31 ∨ k = 32 ∨ k = 33 ∨ k = 34 ∨ k = 35 ∨ k = 36 ∨ k = 37 ∨ k = 38 ∨ k = 39 ∨ k = 40 ∨ k = 41 ∨ k = 42 ∨ k = 43 ∨ k = 44 ∨ k = 45 ∨ k = 46 ∨ k = 47 ∨ k = 48 by omega) with rfl | rfl | rfl | rfl | rfl | rfl | rfl | rfl | rfl | rfl | rfl | rfl | rfl | rfl | rfl | rfl | rfl | rfl | rfl | rfl | rfl | rfl | rfl | rfl | rfl | rfl | rfl | rfl | rfl | rfl | rfl | rfl | rfl | rfl | rfl | rfl | rfl | rfl | rfl | rfl | rfl | rfl | rfl | rfl | rfl | rfl | rfl | rfl | rfl <;> rfl
theorem nw_7_35 : Cond.methodLinkNest RX7 35 mX2_init.1 RX7 ∈ NWl := by simp [NWl]
theorem nw_2_11 : Cond.methodLinkNest RX2 11 mX5_init.1 RX7 ∈ NWl := by simp [NWl]
theorem nw_7_42 : Cond.methodLinkNest RX7 42 mX3_init.1 RX7 ∈ NWl := by simp [NWl]
theorem nw_7_49 : Cond.methodLinkNest RX7 49 mX1_init.1 RX7 ∈ NWl := by simp [NWl]
theorem nw_7_79 : Cond.methodLinkNest RX7 79 mX0_init.1 RX7 ∈ NWl := by simp [NWl]
theorem nw_7_81 : Cond.methodLinkNest RX7 81 mX4_init.1 RX7 ∈ NWl := by simp [NWl]
