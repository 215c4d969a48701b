/-! ===== rows: an instruction each ===== -/
section EV
variable {G : GW} {M : MK} {d N Z pc : Nat} {lv : List (Nat × Value)} {st : List Value} {S : HS} {μ : Mem} {K : Option Value → HS → Mem → Prop}
theorem ev_iconst {n : Int} {v : Int32} (hd : decode M.2.1 pc = .ok (.iconst n, 1)) (hv : Int32.ofInt n = v) (kk : EvW G M d N Z (pc + 1) lv (.int v :: st) S μ K) : EvW G M d N Z pc lv (st) S μ K := by
  intro p l e R s m args below meth c H locs n0 z0 lsA Q C hH hn0 hz0 hN hZ hlo hl fin
  exact lv_iconst C.1 C.2.1 hd hv (kk p l e R s m args below meth c H locs n0 z0 lsA Q C hH hn0 hz0 hN hZ hlo hl fin)
theorem ev_bipush {n : Int} {v : Int32} (hd : decode M.2.1 pc = .ok (.bipush n, 2)) (hv : (Int8.ofInt n).toInt32 = v) (kk : EvW G M d N Z (pc + 2) lv (.int v :: st) S μ K) : EvW G M d N Z pc lv (st) S μ K := by
  intro p l e R s m args below meth c H locs n0 z0 lsA Q C hH hn0 hz0 hN hZ hlo hl fin
  exact lv_bipush C.1 C.2.1 hd hv (kk p l e R s m args below meth c H locs n0 z0 lsA Q C hH hn0 hz0 hN hZ hlo hl fin)
theorem ev_sipush {n : Int} {v : Int32} (hd : decode M.2.1 pc = .ok (.sipush n, 3)) (hv : (Int16.ofInt n).toInt32 = v) (kk : EvW G M d N Z (pc + 3) lv (.int v :: st) S μ K) : EvW G M d N Z pc lv (st) S μ K := by
  intro p l e R s m args below meth c H locs n0 z0 lsA Q C hH hn0 hz0 hN hZ hlo hl fin
  exact lv_sipush C.1 C.2.1 hd hv (kk p l e R s m args below meth c H locs n0 z0 lsA Q C hH hn0 hz0 hN hZ hlo hl fin)
theorem ev_lconst {n : Fin 2} {v : Int64} (hd : decode M.2.1 pc = .ok (.lconst n, 1)) (hv : Int64.ofNat (n : Nat) = v) (kk : EvW G M d N Z (pc + 1) lv (.long v :: st) S μ K) : EvW G M d N Z pc lv (st) S μ K := by
  intro p l e R s m args below meth c H locs n0 z0 lsA Q C hH hn0 hz0 hN hZ hlo hl fin
  exact lv_lconst C.1 C.2.1 hd hv (kk p l e R s m args below meth c H locs n0 z0 lsA Q C hH hn0 hz0 hN hZ hlo hl fin)
theorem ev_ldc {i : Nat} {v : Int32} (hd : decode M.2.1 pc = .ok (.ldc i, 2)) (hw : Cond.constant M.1.cls i v ∈ TW) (kk : EvW G M d N Z (pc + 2) lv (.int v :: st) S μ K) : EvW G M d N Z pc lv (st) S μ K := by
  intro p l e R s m args below meth c H locs n0 z0 lsA Q C hH hn0 hz0 hN hZ hlo hl fin
  exact W.ldc C.1 C.2.1 C.2.2.2.1 (C.2.2.2.2.1 _ hw) rfl hd (kk p l e R s m args below meth c H locs n0 z0 lsA Q C hH hn0 hz0 hN hZ hlo hl fin)
theorem ev_ldcw {i : Nat} {v : Int32} (hd : decode M.2.1 pc = .ok (.ldc_w i, 3)) (hw : Cond.constant M.1.cls i v ∈ TW) (kk : EvW G M d N Z (pc + 3) lv (.int v :: st) S μ K) : EvW G M d N Z pc lv (st) S μ K := by
  intro p l e R s m args below meth c H locs n0 z0 lsA Q C hH hn0 hz0 hN hZ hlo hl fin
  exact lv_ldcw C.1 C.2.1 C.2.2.2.1 (C.2.2.2.2.1 _ hw) hd (kk p l e R s m args below meth c H locs n0 z0 lsA Q C hH hn0 hz0 hN hZ hlo hl fin)
theorem ev_ldc2 {i : Nat} {v : Int64} (hd : decode M.2.1 pc = .ok (.ldc2_w i, 3)) (hw : Cond.constantLong M.1.cls i v ∈ TW) (kk : EvW G M d N Z (pc + 3) lv (.long v :: st) S μ K) : EvW G M d N Z pc lv (st) S μ K := by
  intro p l e R s m args below meth c H locs n0 z0 lsA Q C hH hn0 hz0 hN hZ hlo hl fin
  exact lv_ldc2 C.1 C.2.1 C.2.2.2.1 (C.2.2.2.2.1 _ hw) hd (kk p l e R s m args below meth c H locs n0 z0 lsA Q C hH hn0 hz0 hN hZ hlo hl fin)
theorem lv_cget {lsA : Array Slot} {nL j k : Nat} {v : Value} (hl : lv_has lsA nL (lv.map (cvp G))) (h : lv[j]? = some (k, v)) : lsA[k]? = some (.val (cv G v)) := by
  refine lv_at hl j ?_
  rw [List.getElem?_map, h]
  rfl
theorem ev_iload_n {k : Fin 4} {x : Int32} (hd : decode M.2.1 pc = .ok (.iload_n k, 1)) (j : Nat) (h : lv[j]? = some ((k : Nat), .int x)) (kk : EvW G M d N Z (pc + 1) lv (.int x :: st) S μ K) : EvW G M d N Z pc lv (st) S μ K := by
  intro p l e R s m args below meth c H locs n0 z0 lsA Q C hH hn0 hz0 hN hZ hlo hl fin
  exact lv_iload_n C.1 C.2.1 hd rfl (lv_cget hl h) (kk p l e R s m args below meth c H locs n0 z0 lsA Q C hH hn0 hz0 hN hZ hlo hl fin)
theorem ev_iload {k : Nat} {x : Int32} (hd : decode M.2.1 pc = .ok (.iload k, 2)) (j : Nat) (h : lv[j]? = some (k, .int x)) (kk : EvW G M d N Z (pc + 2) lv (.int x :: st) S μ K) : EvW G M d N Z pc lv (st) S μ K := by
  intro p l e R s m args below meth c H locs n0 z0 lsA Q C hH hn0 hz0 hN hZ hlo hl fin
  exact lv_iload C.1 C.2.1 hd (lv_cget hl h) (kk p l e R s m args below meth c H locs n0 z0 lsA Q C hH hn0 hz0 hN hZ hlo hl fin)
theorem ev_lload_n {k : Fin 4} {x : Int64} (hd : decode M.2.1 pc = .ok (.lload_n k, 1)) (j : Nat) (h : lv[j]? = some ((k : Nat), .long x)) (kk : EvW G M d N Z (pc + 1) lv (.long x :: st) S μ K) : EvW G M d N Z pc lv (st) S μ K := by
  intro p l e R s m args below meth c H locs n0 z0 lsA Q C hH hn0 hz0 hN hZ hlo hl fin
  exact lv_lload_n C.1 C.2.1 hd rfl (lv_cget hl h) (kk p l e R s m args below meth c H locs n0 z0 lsA Q C hH hn0 hz0 hN hZ hlo hl fin)
theorem ev_lload {k : Nat} {x : Int64} (hd : decode M.2.1 pc = .ok (.lload k, 2)) (j : Nat) (h : lv[j]? = some (k, .long x)) (kk : EvW G M d N Z (pc + 2) lv (.long x :: st) S μ K) : EvW G M d N Z pc lv (st) S μ K := by
  intro p l e R s m args below meth c H locs n0 z0 lsA Q C hH hn0 hz0 hN hZ hlo hl fin
  exact lv_lload C.1 C.2.1 hd (lv_cget hl h) (kk p l e R s m args below meth c H locs n0 z0 lsA Q C hH hn0 hz0 hN hZ hlo hl fin)
theorem g_rf_nz {a : Nat} (ha : a ≠ 0) : g_rf G a = .ref (g_adr G a) := if_neg ha
theorem cv_nz {a : Nat} (ha : a ≠ 0) : cv G (.ref a) = .ref (g_adr G a) := if_neg ha
theorem lv_cref {lsA : Array Slot} {nL j k a : Nat} (hl : lv_has lsA nL (lv.map (cvp G))) (h : lv[j]? = some (k, .ref a)) (ha : a ≠ 0) : lsA[k]? = some (.val (.ref (g_adr G a))) := by
  rw [lv_cget hl h, cv_nz ha]
theorem st_ref {a : Nat} {st : List Value} (ha : a ≠ 0) : List.map (cv G) (.ref a :: st) = .ref (g_adr G a) :: st.map (cv G) := by
  show cv G (.ref a) :: _ = _
  rw [cv_nz ha]
theorem ev_aload_n {k : Fin 4} {x : Nat} (hd : decode M.2.1 pc = .ok (.aload_n k, 1)) (j : Nat) (h : lv[j]? = some ((k : Nat), .ref x)) (ha : x ≠ 0) (kk : EvW G M d N Z (pc + 1) lv (.ref x :: st) S μ K) : EvW G M d N Z pc lv st S μ K := by
  intro p l e R s m args below meth c H locs n0 z0 lsA Q C hH hn0 hz0 hN hZ hlo hl fin
  have k2 := kk p l e R s m args below meth c H locs n0 z0 lsA Q C hH hn0 hz0 hN hZ hlo hl fin
  rw [st_ref ha] at k2
  exact lv_aload_n C.1 C.2.1 hd rfl (lv_cref hl h ha) k2
theorem ev_aload {k : Nat} {x : Nat} (hd : decode M.2.1 pc = .ok (.aload k, 2)) (j : Nat) (h : lv[j]? = some (k, .ref x)) (ha : x ≠ 0) (kk : EvW G M d N Z (pc + 2) lv (.ref x :: st) S μ K) : EvW G M d N Z pc lv st S μ K := by
  intro p l e R s m args below meth c H locs n0 z0 lsA Q C hH hn0 hz0 hN hZ hlo hl fin
  have k2 := kk p l e R s m args below meth c H locs n0 z0 lsA Q C hH hn0 hz0 hN hZ hlo hl fin
  rw [st_ref ha] at k2
  exact lv_aload C.1 C.2.1 hd (lv_cref hl h ha) k2
theorem lv_fpick {k : Nat} {v : Value} {lv' : List (Nat × Value)} {P : Nat × Value → Bool} (hP : ∀ q, P (cvp G q) = P q) (ks : List Nat) (hl' : lv_pick ((k, v) :: lv.filter P) ks = lv') : lv_pick ((k, cv G v) :: (lv.map (cvp G)).filter P) ks = lv'.map (cvp G) := by
  subst hl'
  unfold lv_pick
  rw [List.map_filterMap, List.filter_map]
  have e : (P ∘ cvp G) = P := funext hP
  rw [e]
  congr 1
  funext i
  cases i with
  | zero => rfl
  | succ i => simp [List.getElem?_map]
theorem cvp_cat (q : Nat × Value) : (cvp G q).2.category = q.2.category := cv_cat G q.2
theorem ev_istore_n {k : Fin 4} {x : Int32} {lv' : List (Nat × Value)} (hd : decode M.2.1 pc = .ok (.istore_n k, 1)) (hn : (k : Nat) < M.2.2.1) (ks : List Nat) (hl' : lv_pick (((k : Nat), .int x) :: lv.filter (fun q => !(q.1 == (k : Nat)) && !(q.1 + 1 == (k : Nat) && q.2.category == 2))) ks = lv') (kk : EvW G M d N Z (pc + 1) lv' st S μ K) : EvW G M d N Z pc lv (.int x :: st) S μ K := by
  intro p l e R s m args below meth c H locs n0 z0 lsA Q C hH hn0 hz0 hN hZ hlo hl fin
  refine lv_istore_n C.1 C.2.1 hd rfl hl hn rfl (fun ls2 hl2 => ?_)
  exact kk p l e R s m args below meth c H locs n0 z0 ls2 Q C hH hn0 hz0 hN hZ hlo (lv_sub hl2 ks (lv_fpick (G := G) (v := .int x) (fun q => by rw [cvp_cat]; rfl) ks hl')) fin
theorem ev_istore {k : Nat} {x : Int32} {lv' : List (Nat × Value)} (hd : decode M.2.1 pc = .ok (.istore k, 2)) (hn : k < M.2.2.1) (ks : List Nat) (hl' : lv_pick ((k, .int x) :: lv.filter (fun q => !(q.1 == k) && !(q.1 + 1 == k && q.2.category == 2))) ks = lv') (kk : EvW G M d N Z (pc + 2) lv' st S μ K) : EvW G M d N Z pc lv (.int x :: st) S μ K := by
  intro p l e R s m args below meth c H locs n0 z0 lsA Q C hH hn0 hz0 hN hZ hlo hl fin
  refine lv_istore C.1 C.2.1 hd hl hn rfl (fun ls2 hl2 => ?_)
  exact kk p l e R s m args below meth c H locs n0 z0 ls2 Q C hH hn0 hz0 hN hZ hlo (lv_sub hl2 ks (lv_fpick (G := G) (v := .int x) (fun q => by rw [cvp_cat]; rfl) ks hl')) fin
theorem ev_lstore_n {k : Fin 4} {x : Int64} {lv' : List (Nat × Value)} (hd : decode M.2.1 pc = .ok (.lstore_n k, 1)) (hn : (k : Nat) + 1 < M.2.2.1) (ks : List Nat) (hl' : lv_pick (((k : Nat), .long x) :: lv.filter (fun q => !(q.1 == (k : Nat)) && (!(q.1 == (k : Nat) + 1) && !(q.1 + 1 == (k : Nat) && q.2.category == 2)))) ks = lv') (kk : EvW G M d N Z (pc + 1) lv' st S μ K) : EvW G M d N Z pc lv (.long x :: st) S μ K := by
  intro p l e R s m args below meth c H locs n0 z0 lsA Q C hH hn0 hz0 hN hZ hlo hl fin
  refine lv_lstore_n C.1 C.2.1 hd rfl hl hn rfl (fun ls2 hl2 => ?_)
  exact kk p l e R s m args below meth c H locs n0 z0 ls2 Q C hH hn0 hz0 hN hZ hlo (lv_sub hl2 ks (lv_fpick (G := G) (v := .long x) (fun q => by rw [cvp_cat]; rfl) ks hl')) fin
theorem ev_lstore {k : Nat} {x : Int64} {lv' : List (Nat × Value)} (hd : decode M.2.1 pc = .ok (.lstore k, 2)) (hn : k + 1 < M.2.2.1) (ks : List Nat) (hl' : lv_pick ((k, .long x) :: lv.filter (fun q => !(q.1 == k) && (!(q.1 == k + 1) && !(q.1 + 1 == k && q.2.category == 2)))) ks = lv') (kk : EvW G M d N Z (pc + 2) lv' st S μ K) : EvW G M d N Z pc lv (.long x :: st) S μ K := by
  intro p l e R s m args below meth c H locs n0 z0 lsA Q C hH hn0 hz0 hN hZ hlo hl fin
  refine lv_lstore C.1 C.2.1 hd hl hn rfl (fun ls2 hl2 => ?_)
  exact kk p l e R s m args below meth c H locs n0 z0 ls2 Q C hH hn0 hz0 hN hZ hlo (lv_sub hl2 ks (lv_fpick (G := G) (v := .long x) (fun q => by rw [cvp_cat]; rfl) ks hl')) fin
theorem ev_astore_n {k : Fin 4} {x : Nat} {lv' : List (Nat × Value)} (hd : decode M.2.1 pc = .ok (.astore_n k, 1)) (ha : x ≠ 0) (hn : (k : Nat) < M.2.2.1) (ks : List Nat) (hl' : lv_pick (((k : Nat), .ref x) :: lv.filter (fun q => !(q.1 == (k : Nat)) && !(q.1 + 1 == (k : Nat) && q.2.category == 2))) ks = lv') (kk : EvW G M d N Z (pc + 1) lv' st S μ K) : EvW G M d N Z pc lv (.ref x :: st) S μ K := by
  intro p l e R s m args below meth c H locs n0 z0 lsA Q C hH hn0 hz0 hN hZ hlo hl fin
  rw [st_ref ha]
  refine lv_astore_n C.1 C.2.1 hd rfl hl hn rfl (fun ls2 hl2 => ?_)
  have e9 := lv_fpick (G := G) (v := .ref x) (P := (fun q => !(q.1 == (k : Nat)) && !(q.1 + 1 == (k : Nat) && q.2.category == 2))) (fun q => by rw [cvp_cat]; rfl) ks hl'
  rw [cv_nz ha] at e9
  exact kk p l e R s m args below meth c H locs n0 z0 ls2 Q C hH hn0 hz0 hN hZ hlo (lv_sub hl2 ks e9) fin
theorem ev_astore {k : Nat} {x : Nat} {lv' : List (Nat × Value)} (hd : decode M.2.1 pc = .ok (.astore k, 2)) (ha : x ≠ 0) (hn : k < M.2.2.1) (ks : List Nat) (hl' : lv_pick ((k, .ref x) :: lv.filter (fun q => !(q.1 == k) && !(q.1 + 1 == k && q.2.category == 2))) ks = lv') (kk : EvW G M d N Z (pc + 2) lv' st S μ K) : EvW G M d N Z pc lv (.ref x :: st) S μ K := by
  intro p l e R s m args below meth c H locs n0 z0 lsA Q C hH hn0 hz0 hN hZ hlo hl fin
  rw [st_ref ha]
  refine lv_astore C.1 C.2.1 hd hl hn rfl (fun ls2 hl2 => ?_)
  have e9 := lv_fpick (G := G) (v := .ref x) (P := (fun q => !(q.1 == k) && !(q.1 + 1 == k && q.2.category == 2))) (fun q => by rw [cvp_cat]; rfl) ks hl'
  rw [cv_nz ha] at e9
  exact kk p l e R s m args below meth c H locs n0 z0 ls2 Q C hH hn0 hz0 hN hZ hlo (lv_sub hl2 ks e9) fin
theorem ev_iinc {k : Nat} {n : Int} {x v : Int32} {lv' : List (Nat × Value)} (hd : decode M.2.1 pc = .ok (.iinc k n, 3)) (j : Nat) (h : lv[j]? = some (k, .int x)) (hv : x + Int32.ofInt n = v) (hn : k < M.2.2.1) (ks : List Nat) (hl' : lv_pick ((k, .int v) :: lv.filter (fun q => !(q.1 == k) && !(q.1 + 1 == k && q.2.category == 2))) ks = lv') (kk : EvW G M d N Z (pc + 3) lv' st S μ K) : EvW G M d N Z pc lv st S μ K := by
  intro p l e R s m args below meth c H locs n0 z0 lsA Q C hH hn0 hz0 hN hZ hlo hl fin
  refine lv_iinc (k := j) C.1 C.2.1 hd hl (by rw [List.getElem?_map, h]; rfl) hv hn rfl (fun ls2 hl2 => ?_)
  exact kk p l e R s m args below meth c H locs n0 z0 ls2 Q C hH hn0 hz0 hN hZ hlo (lv_sub hl2 ks (lv_fpick (G := G) (v := .int v) (fun q => by rw [cvp_cat]; rfl) ks hl')) fin
theorem ev_iadd {x y : Int32} (hd : decode M.2.1 pc = .ok (.iadd, 1)) (kk : EvW G M d N Z (pc + 1) lv (.int (x + y) :: st) S μ K) : EvW G M d N Z pc lv (.int y :: .int x :: st) S μ K := by
  intro p l e R s m args below meth c H locs n0 z0 lsA Q C hH hn0 hz0 hN hZ hlo hl fin
  exact lv_iadd C.1 C.2.1 hd (kk p l e R s m args below meth c H locs n0 z0 lsA Q C hH hn0 hz0 hN hZ hlo hl fin)
theorem ev_isub {x y : Int32} (hd : decode M.2.1 pc = .ok (.isub, 1)) (kk : EvW G M d N Z (pc + 1) lv (.int (x - y) :: st) S μ K) : EvW G M d N Z pc lv (.int y :: .int x :: st) S μ K := by
  intro p l e R s m args below meth c H locs n0 z0 lsA Q C hH hn0 hz0 hN hZ hlo hl fin
  exact lv_isub C.1 C.2.1 hd (kk p l e R s m args below meth c H locs n0 z0 lsA Q C hH hn0 hz0 hN hZ hlo hl fin)
theorem ev_imul {x y : Int32} (hd : decode M.2.1 pc = .ok (.imul, 1)) (kk : EvW G M d N Z (pc + 1) lv (.int (x * y) :: st) S μ K) : EvW G M d N Z pc lv (.int y :: .int x :: st) S μ K := by
  intro p l e R s m args below meth c H locs n0 z0 lsA Q C hH hn0 hz0 hN hZ hlo hl fin
  exact lv_imul C.1 C.2.1 hd (kk p l e R s m args below meth c H locs n0 z0 lsA Q C hH hn0 hz0 hN hZ hlo hl fin)
theorem ev_iand {x y : Int32} (hd : decode M.2.1 pc = .ok (.iand, 1)) (kk : EvW G M d N Z (pc + 1) lv (.int (x &&& y) :: st) S μ K) : EvW G M d N Z pc lv (.int y :: .int x :: st) S μ K := by
  intro p l e R s m args below meth c H locs n0 z0 lsA Q C hH hn0 hz0 hN hZ hlo hl fin
  exact lv_iand C.1 C.2.1 hd (kk p l e R s m args below meth c H locs n0 z0 lsA Q C hH hn0 hz0 hN hZ hlo hl fin)
theorem ev_ior {x y : Int32} (hd : decode M.2.1 pc = .ok (.ior, 1)) (kk : EvW G M d N Z (pc + 1) lv (.int (x ||| y) :: st) S μ K) : EvW G M d N Z pc lv (.int y :: .int x :: st) S μ K := by
  intro p l e R s m args below meth c H locs n0 z0 lsA Q C hH hn0 hz0 hN hZ hlo hl fin
  exact lv_ior C.1 C.2.1 hd (kk p l e R s m args below meth c H locs n0 z0 lsA Q C hH hn0 hz0 hN hZ hlo hl fin)
theorem ev_ixor {x y : Int32} (hd : decode M.2.1 pc = .ok (.ixor, 1)) (kk : EvW G M d N Z (pc + 1) lv (.int (x ^^^ y) :: st) S μ K) : EvW G M d N Z pc lv (.int y :: .int x :: st) S μ K := by
  intro p l e R s m args below meth c H locs n0 z0 lsA Q C hH hn0 hz0 hN hZ hlo hl fin
  exact lv_ixor C.1 C.2.1 hd (kk p l e R s m args below meth c H locs n0 z0 lsA Q C hH hn0 hz0 hN hZ hlo hl fin)
theorem ev_ishl {x y : Int32} (hd : decode M.2.1 pc = .ok (.ishl, 1)) (kk : EvW G M d N Z (pc + 1) lv (.int (x <<< (y &&& 31)) :: st) S μ K) : EvW G M d N Z pc lv (.int y :: .int x :: st) S μ K := by
  intro p l e R s m args below meth c H locs n0 z0 lsA Q C hH hn0 hz0 hN hZ hlo hl fin
  exact lv_ishl C.1 C.2.1 hd (kk p l e R s m args below meth c H locs n0 z0 lsA Q C hH hn0 hz0 hN hZ hlo hl fin)
theorem ev_ishr {x y : Int32} (hd : decode M.2.1 pc = .ok (.ishr, 1)) (kk : EvW G M d N Z (pc + 1) lv (.int (x >>> (y &&& 31)) :: st) S μ K) : EvW G M d N Z pc lv (.int y :: .int x :: st) S μ K := by
  intro p l e R s m args below meth c H locs n0 z0 lsA Q C hH hn0 hz0 hN hZ hlo hl fin
  exact lv_ishr C.1 C.2.1 hd (kk p l e R s m args below meth c H locs n0 z0 lsA Q C hH hn0 hz0 hN hZ hlo hl fin)
theorem ev_idiv {x y : Int32} (hd : decode M.2.1 pc = .ok (.idiv, 1)) (hne : ¬ y = 0) (kk : EvW G M d N Z (pc + 1) lv (.int (x / y) :: st) S μ K) : EvW G M d N Z pc lv (.int y :: .int x :: st) S μ K := by
  intro p l e R s m args below meth c H locs n0 z0 lsA Q C hH hn0 hz0 hN hZ hlo hl fin
  exact lv_idiv C.1 C.2.1 hd hne (kk p l e R s m args below meth c H locs n0 z0 lsA Q C hH hn0 hz0 hN hZ hlo hl fin)
theorem ev_irem {x y : Int32} (hd : decode M.2.1 pc = .ok (.irem, 1)) (hne : ¬ y = 0) (kk : EvW G M d N Z (pc + 1) lv (.int (x - x / y * y) :: st) S μ K) : EvW G M d N Z pc lv (.int y :: .int x :: st) S μ K := by
  intro p l e R s m args below meth c H locs n0 z0 lsA Q C hH hn0 hz0 hN hZ hlo hl fin
  exact lv_irem C.1 C.2.1 hd hne (kk p l e R s m args below meth c H locs n0 z0 lsA Q C hH hn0 hz0 hN hZ hlo hl fin)
theorem ev_ladd {x y : Int64} (hd : decode M.2.1 pc = .ok (.ladd, 1)) (kk : EvW G M d N Z (pc + 1) lv (.long (x + y) :: st) S μ K) : EvW G M d N Z pc lv (.long y :: .long x :: st) S μ K := by
  intro p l e R s m args below meth c H locs n0 z0 lsA Q C hH hn0 hz0 hN hZ hlo hl fin
  exact lv_ladd C.1 C.2.1 hd (kk p l e R s m args below meth c H locs n0 z0 lsA Q C hH hn0 hz0 hN hZ hlo hl fin)
theorem ev_lsub {x y : Int64} (hd : decode M.2.1 pc = .ok (.lsub, 1)) (kk : EvW G M d N Z (pc + 1) lv (.long (x - y) :: st) S μ K) : EvW G M d N Z pc lv (.long y :: .long x :: st) S μ K := by
  intro p l e R s m args below meth c H locs n0 z0 lsA Q C hH hn0 hz0 hN hZ hlo hl fin
  exact lv_lsub C.1 C.2.1 hd (kk p l e R s m args below meth c H locs n0 z0 lsA Q C hH hn0 hz0 hN hZ hlo hl fin)
theorem ev_lmul {x y : Int64} (hd : decode M.2.1 pc = .ok (.lmul, 1)) (kk : EvW G M d N Z (pc + 1) lv (.long (x * y) :: st) S μ K) : EvW G M d N Z pc lv (.long y :: .long x :: st) S μ K := by
  intro p l e R s m args below meth c H locs n0 z0 lsA Q C hH hn0 hz0 hN hZ hlo hl fin
  exact lv_lmul C.1 C.2.1 hd (kk p l e R s m args below meth c H locs n0 z0 lsA Q C hH hn0 hz0 hN hZ hlo hl fin)
theorem ev_ldiv {x y : Int64} (hd : decode M.2.1 pc = .ok (.ldiv, 1)) (hne : ¬ y = 0) (kk : EvW G M d N Z (pc + 1) lv (.long (x / y) :: st) S μ K) : EvW G M d N Z pc lv (.long y :: .long x :: st) S μ K := by
  intro p l e R s m args below meth c H locs n0 z0 lsA Q C hH hn0 hz0 hN hZ hlo hl fin
  exact lv_ldiv C.1 C.2.1 hd hne (kk p l e R s m args below meth c H locs n0 z0 lsA Q C hH hn0 hz0 hN hZ hlo hl fin)
theorem ev_lrem {x y : Int64} (hd : decode M.2.1 pc = .ok (.lrem, 1)) (hne : ¬ y = 0) (kk : EvW G M d N Z (pc + 1) lv (.long (x - x / y * y) :: st) S μ K) : EvW G M d N Z pc lv (.long y :: .long x :: st) S μ K := by
  intro p l e R s m args below meth c H locs n0 z0 lsA Q C hH hn0 hz0 hN hZ hlo hl fin
  exact lv_lrem C.1 C.2.1 hd hne (kk p l e R s m args below meth c H locs n0 z0 lsA Q C hH hn0 hz0 hN hZ hlo hl fin)
theorem ev_ineg {x : Int32} (hd : decode M.2.1 pc = .ok (.ineg, 1)) (kk : EvW G M d N Z (pc + 1) lv (.int (-x) :: st) S μ K) : EvW G M d N Z pc lv (.int x :: st) S μ K := by
  intro p l e R s m args below meth c H locs n0 z0 lsA Q C hH hn0 hz0 hN hZ hlo hl fin
  exact lv_ineg C.1 C.2.1 hd (kk p l e R s m args below meth c H locs n0 z0 lsA Q C hH hn0 hz0 hN hZ hlo hl fin)
theorem ev_lcmp {x y : Int64} (hd : decode M.2.1 pc = .ok (.lcmp, 1)) (kk : EvW G M d N Z (pc + 1) lv (.int (lg_cmp x y) :: st) S μ K) : EvW G M d N Z pc lv (.long y :: .long x :: st) S μ K := by
  intro p l e R s m args below meth c H locs n0 z0 lsA Q C hH hn0 hz0 hN hZ hlo hl fin
  exact W.lcmp C.1 C.2.1 hd (kk p l e R s m args below meth c H locs n0 z0 lsA Q C hH hn0 hz0 hN hZ hlo hl fin)
theorem ev_i2l {x : Int32} (hd : decode M.2.1 pc = .ok (.i2l, 1)) (kk : EvW G M d N Z (pc + 1) lv (.long x.toInt64 :: st) S μ K) : EvW G M d N Z pc lv (.int x :: st) S μ K := by
  intro p l e R s m args below meth c H locs n0 z0 lsA Q C hH hn0 hz0 hN hZ hlo hl fin
  exact lv_i2l C.1 C.2.1 hd rfl (kk p l e R s m args below meth c H locs n0 z0 lsA Q C hH hn0 hz0 hN hZ hlo hl fin)
theorem ev_l2i {x : Int64} (hd : decode M.2.1 pc = .ok (.l2i, 1)) (kk : EvW G M d N Z (pc + 1) lv (.int x.toInt32 :: st) S μ K) : EvW G M d N Z pc lv (.long x :: st) S μ K := by
  intro p l e R s m args below meth c H locs n0 z0 lsA Q C hH hn0 hz0 hN hZ hlo hl fin
  exact lv_l2i C.1 C.2.1 hd rfl (kk p l e R s m args below meth c H locs n0 z0 lsA Q C hH hn0 hz0 hN hZ hlo hl fin)
theorem ev_i2b {x : Int32} (hd : decode M.2.1 pc = .ok (.i2b, 1)) (kk : EvW G M d N Z (pc + 1) lv (.int x.toInt8.toInt32 :: st) S μ K) : EvW G M d N Z pc lv (.int x :: st) S μ K := by
  intro p l e R s m args below meth c H locs n0 z0 lsA Q C hH hn0 hz0 hN hZ hlo hl fin
  exact lv_i2b C.1 C.2.1 hd rfl (kk p l e R s m args below meth c H locs n0 z0 lsA Q C hH hn0 hz0 hN hZ hlo hl fin)
theorem ev_i2s {x : Int32} (hd : decode M.2.1 pc = .ok (.i2s, 1)) (kk : EvW G M d N Z (pc + 1) lv (.int x.toInt16.toInt32 :: st) S μ K) : EvW G M d N Z pc lv (.int x :: st) S μ K := by
  intro p l e R s m args below meth c H locs n0 z0 lsA Q C hH hn0 hz0 hN hZ hlo hl fin
  exact lv_i2s C.1 C.2.1 hd rfl (kk p l e R s m args below meth c H locs n0 z0 lsA Q C hH hn0 hz0 hN hZ hlo hl fin)
theorem ev_i2c {x : Int32} (hd : decode M.2.1 pc = .ok (.i2c, 1)) (kk : EvW G M d N Z (pc + 1) lv (.int (x.toUInt32 % 65536).toInt32 :: st) S μ K) : EvW G M d N Z pc lv (.int x :: st) S μ K := by
  intro p l e R s m args below meth c H locs n0 z0 lsA Q C hH hn0 hz0 hN hZ hlo hl fin
  exact lv_i2c C.1 C.2.1 hd rfl (kk p l e R s m args below meth c H locs n0 z0 lsA Q C hH hn0 hz0 hN hZ hlo hl fin)
theorem ev_dup {v : Value} (hd : decode M.2.1 pc = .ok (.dup, 1)) (hv : v.category = 1) (kk : EvW G M d N Z (pc + 1) lv (v :: v :: st) S μ K) : EvW G M d N Z pc lv (v :: st) S μ K := by
  intro p l e R s m args below meth c H locs n0 z0 lsA Q C hH hn0 hz0 hN hZ hlo hl fin
  exact lv_dup C.1 C.2.1 hd (by rw [cv_cat]; exact hv) (kk p l e R s m args below meth c H locs n0 z0 lsA Q C hH hn0 hz0 hN hZ hlo hl fin)
theorem ev_pop {v : Value} (hd : decode M.2.1 pc = .ok (.pop, 1)) (hv : v.category = 1) (kk : EvW G M d N Z (pc + 1) lv (st) S μ K) : EvW G M d N Z pc lv (v :: st) S μ K := by
  intro p l e R s m args below meth c H locs n0 z0 lsA Q C hH hn0 hz0 hN hZ hlo hl fin
  exact lv_pop C.1 C.2.1 hd (by rw [cv_cat]; exact hv) (kk p l e R s m args below meth c H locs n0 z0 lsA Q C hH hn0 hz0 hN hZ hlo hl fin)
theorem ev_if_eq {x : Int32} {off : Int} {tgt : Nat} (hd : decode M.2.1 pc = .ok (.ifCond .eq off, 3)) (ht : (pc : Int) + off = (tgt : Int)) (kt : x = 0 → EvW G M d N Z tgt lv st S μ K) (kf : ¬ (x = 0) → EvW G M d N Z (pc + 3) lv st S μ K) : EvW G M d N Z pc lv (.int x :: st) S μ K := by
  intro p l e R s m args below meth c H locs n0 z0 lsA Q C hH hn0 hz0 hN hZ hlo hl fin
  exact lv_if_eq C.1 C.2.1 hd ht (fun q => kt q p l e R s m args below meth c H locs n0 z0 lsA Q C hH hn0 hz0 hN hZ hlo hl fin) (fun q => kf q p l e R s m args below meth c H locs n0 z0 lsA Q C hH hn0 hz0 hN hZ hlo hl fin)
theorem ev_if_ne {x : Int32} {off : Int} {tgt : Nat} (hd : decode M.2.1 pc = .ok (.ifCond .ne off, 3)) (ht : (pc : Int) + off = (tgt : Int)) (kt : ¬ x = 0 → EvW G M d N Z tgt lv st S μ K) (kf : x = 0 → EvW G M d N Z (pc + 3) lv st S μ K) : EvW G M d N Z pc lv (.int x :: st) S μ K := by
  intro p l e R s m args below meth c H locs n0 z0 lsA Q C hH hn0 hz0 hN hZ hlo hl fin
  exact lv_if_ne C.1 C.2.1 hd ht (fun q => kt q p l e R s m args below meth c H locs n0 z0 lsA Q C hH hn0 hz0 hN hZ hlo hl fin) (fun q => kf q p l e R s m args below meth c H locs n0 z0 lsA Q C hH hn0 hz0 hN hZ hlo hl fin)
theorem ev_if_lt {x : Int32} {off : Int} {tgt : Nat} (hd : decode M.2.1 pc = .ok (.ifCond .lt off, 3)) (ht : (pc : Int) + off = (tgt : Int)) (kt : x < 0 → EvW G M d N Z tgt lv st S μ K) (kf : ¬ (x < 0) → EvW G M d N Z (pc + 3) lv st S μ K) : EvW G M d N Z pc lv (.int x :: st) S μ K := by
  intro p l e R s m args below meth c H locs n0 z0 lsA Q C hH hn0 hz0 hN hZ hlo hl fin
  exact lv_if_lt C.1 C.2.1 hd ht (fun q => kt q p l e R s m args below meth c H locs n0 z0 lsA Q C hH hn0 hz0 hN hZ hlo hl fin) (fun q => kf q p l e R s m args below meth c H locs n0 z0 lsA Q C hH hn0 hz0 hN hZ hlo hl fin)
theorem ev_if_ge {x : Int32} {off : Int} {tgt : Nat} (hd : decode M.2.1 pc = .ok (.ifCond .ge off, 3)) (ht : (pc : Int) + off = (tgt : Int)) (kt : 0 ≤ x → EvW G M d N Z tgt lv st S μ K) (kf : ¬ (0 ≤ x) → EvW G M d N Z (pc + 3) lv st S μ K) : EvW G M d N Z pc lv (.int x :: st) S μ K := by
  intro p l e R s m args below meth c H locs n0 z0 lsA Q C hH hn0 hz0 hN hZ hlo hl fin
  exact lv_if_ge C.1 C.2.1 hd ht (fun q => kt q p l e R s m args below meth c H locs n0 z0 lsA Q C hH hn0 hz0 hN hZ hlo hl fin) (fun q => kf q p l e R s m args below meth c H locs n0 z0 lsA Q C hH hn0 hz0 hN hZ hlo hl fin)
theorem ev_if_gt {x : Int32} {off : Int} {tgt : Nat} (hd : decode M.2.1 pc = .ok (.ifCond .gt off, 3)) (ht : (pc : Int) + off = (tgt : Int)) (kt : 0 < x → EvW G M d N Z tgt lv st S μ K) (kf : ¬ (0 < x) → EvW G M d N Z (pc + 3) lv st S μ K) : EvW G M d N Z pc lv (.int x :: st) S μ K := by
  intro p l e R s m args below meth c H locs n0 z0 lsA Q C hH hn0 hz0 hN hZ hlo hl fin
  exact lv_if_gt C.1 C.2.1 hd ht (fun q => kt q p l e R s m args below meth c H locs n0 z0 lsA Q C hH hn0 hz0 hN hZ hlo hl fin) (fun q => kf q p l e R s m args below meth c H locs n0 z0 lsA Q C hH hn0 hz0 hN hZ hlo hl fin)
theorem ev_if_le {x : Int32} {off : Int} {tgt : Nat} (hd : decode M.2.1 pc = .ok (.ifCond .le off, 3)) (ht : (pc : Int) + off = (tgt : Int)) (kt : x ≤ 0 → EvW G M d N Z tgt lv st S μ K) (kf : ¬ (x ≤ 0) → EvW G M d N Z (pc + 3) lv st S μ K) : EvW G M d N Z pc lv (.int x :: st) S μ K := by
  intro p l e R s m args below meth c H locs n0 z0 lsA Q C hH hn0 hz0 hN hZ hlo hl fin
  exact lv_if_le C.1 C.2.1 hd ht (fun q => kt q p l e R s m args below meth c H locs n0 z0 lsA Q C hH hn0 hz0 hN hZ hlo hl fin) (fun q => kf q p l e R s m args below meth c H locs n0 z0 lsA Q C hH hn0 hz0 hN hZ hlo hl fin)
theorem ev_icmp_eq {x y : Int32} {off : Int} {tgt : Nat} (hd : decode M.2.1 pc = .ok (.if_icmp .eq off, 3)) (ht : (pc : Int) + off = (tgt : Int)) (kt : x = y → EvW G M d N Z tgt lv st S μ K) (kf : ¬ (x = y) → EvW G M d N Z (pc + 3) lv st S μ K) : EvW G M d N Z pc lv (.int y :: .int x :: st) S μ K := by
  intro p l e R s m args below meth c H locs n0 z0 lsA Q C hH hn0 hz0 hN hZ hlo hl fin
  exact lv_icmp_eq C.1 C.2.1 hd ht (fun q => kt q p l e R s m args below meth c H locs n0 z0 lsA Q C hH hn0 hz0 hN hZ hlo hl fin) (fun q => kf q p l e R s m args below meth c H locs n0 z0 lsA Q C hH hn0 hz0 hN hZ hlo hl fin)
theorem ev_icmp_ne {x y : Int32} {off : Int} {tgt : Nat} (hd : decode M.2.1 pc = .ok (.if_icmp .ne off, 3)) (ht : (pc : Int) + off = (tgt : Int)) (kt : ¬ x = y → EvW G M d N Z tgt lv st S μ K) (kf : x = y → EvW G M d N Z (pc + 3) lv st S μ K) : EvW G M d N Z pc lv (.int y :: .int x :: st) S μ K := by
  intro p l e R s m args below meth c H locs n0 z0 lsA Q C hH hn0 hz0 hN hZ hlo hl fin
  exact lv_icmp_ne C.1 C.2.1 hd ht (fun q => kt q p l e R s m args below meth c H locs n0 z0 lsA Q C hH hn0 hz0 hN hZ hlo hl fin) (fun q => kf q p l e R s m args below meth c H locs n0 z0 lsA Q C hH hn0 hz0 hN hZ hlo hl fin)
theorem ev_icmp_lt {x y : Int32} {off : Int} {tgt : Nat} (hd : decode M.2.1 pc = .ok (.if_icmp .lt off, 3)) (ht : (pc : Int) + off = (tgt : Int)) (kt : x < y → EvW G M d N Z tgt lv st S μ K) (kf : ¬ (x < y) → EvW G M d N Z (pc + 3) lv st S μ K) : EvW G M d N Z pc lv (.int y :: .int x :: st) S μ K := by
  intro p l e R s m args below meth c H locs n0 z0 lsA Q C hH hn0 hz0 hN hZ hlo hl fin
  exact lv_icmp_lt C.1 C.2.1 hd ht (fun q => kt q p l e R s m args below meth c H locs n0 z0 lsA Q C hH hn0 hz0 hN hZ hlo hl fin) (fun q => kf q p l e R s m args below meth c H locs n0 z0 lsA Q C hH hn0 hz0 hN hZ hlo hl fin)
theorem ev_icmp_ge {x y : Int32} {off : Int} {tgt : Nat} (hd : decode M.2.1 pc = .ok (.if_icmp .ge off, 3)) (ht : (pc : Int) + off = (tgt : Int)) (kt : y ≤ x → EvW G M d N Z tgt lv st S μ K) (kf : ¬ (y ≤ x) → EvW G M d N Z (pc + 3) lv st S μ K) : EvW G M d N Z pc lv (.int y :: .int x :: st) S μ K := by
  intro p l e R s m args below meth c H locs n0 z0 lsA Q C hH hn0 hz0 hN hZ hlo hl fin
  exact lv_icmp_ge C.1 C.2.1 hd ht (fun q => kt q p l e R s m args below meth c H locs n0 z0 lsA Q C hH hn0 hz0 hN hZ hlo hl fin) (fun q => kf q p l e R s m args below meth c H locs n0 z0 lsA Q C hH hn0 hz0 hN hZ hlo hl fin)
theorem ev_icmp_gt {x y : Int32} {off : Int} {tgt : Nat} (hd : decode M.2.1 pc = .ok (.if_icmp .gt off, 3)) (ht : (pc : Int) + off = (tgt : Int)) (kt : y < x → EvW G M d N Z tgt lv st S μ K) (kf : ¬ (y < x) → EvW G M d N Z (pc + 3) lv st S μ K) : EvW G M d N Z pc lv (.int y :: .int x :: st) S μ K := by
  intro p l e R s m args below meth c H locs n0 z0 lsA Q C hH hn0 hz0 hN hZ hlo hl fin
  exact lv_icmp_gt C.1 C.2.1 hd ht (fun q => kt q p l e R s m args below meth c H locs n0 z0 lsA Q C hH hn0 hz0 hN hZ hlo hl fin) (fun q => kf q p l e R s m args below meth c H locs n0 z0 lsA Q C hH hn0 hz0 hN hZ hlo hl fin)
theorem ev_icmp_le {x y : Int32} {off : Int} {tgt : Nat} (hd : decode M.2.1 pc = .ok (.if_icmp .le off, 3)) (ht : (pc : Int) + off = (tgt : Int)) (kt : x ≤ y → EvW G M d N Z tgt lv st S μ K) (kf : ¬ (x ≤ y) → EvW G M d N Z (pc + 3) lv st S μ K) : EvW G M d N Z pc lv (.int y :: .int x :: st) S μ K := by
  intro p l e R s m args below meth c H locs n0 z0 lsA Q C hH hn0 hz0 hN hZ hlo hl fin
  exact lv_icmp_le C.1 C.2.1 hd ht (fun q => kt q p l e R s m args below meth c H locs n0 z0 lsA Q C hH hn0 hz0 hN hZ hlo hl fin) (fun q => kf q p l e R s m args below meth c H locs n0 z0 lsA Q C hH hn0 hz0 hN hZ hlo hl fin)
theorem ev_goto {off : Int} {tgt : Nat} (hd : decode M.2.1 pc = .ok (.goto off, 3)) (ht : (pc : Int) + off = (tgt : Int)) (kk : EvW G M d N Z tgt lv st S μ K) : EvW G M d N Z pc lv st S μ K := by
  intro p l e R s m args below meth c H locs n0 z0 lsA Q C hH hn0 hz0 hN hZ hlo hl fin
  exact lv_goto C.1 C.2.1 hd ht (kk p l e R s m args below meth c H locs n0 z0 lsA Q C hH hn0 hz0 hN hZ hlo hl fin)
theorem ev_tabIn {dflt lo hi : Int} {offs : Array Int} {len : Nat} {x : Int32} {off : Int} {tgt : Nat} (k : Int32) (hd : decode M.2.1 pc = .ok (.tableswitch dflt lo hi offs, len)) (hx : x = k) (h1 : ¬ k.toInt < lo ∧ ¬ hi < k.toInt ∧ offs[(k.toInt - lo).toNat]? = some off ∧ (pc : Int) + off = (tgt : Int)) (kk : EvW G M d N Z tgt lv st S μ K) : EvW G M d N Z pc lv (.int x :: st) S μ K := by
  intro p l e R s m args below meth c H locs n0 z0 lsA Q C hH hn0 hz0 hN hZ hlo hl fin
  subst hx
  exact lv_tableIn C.1 C.2.1 hd h1.1 h1.2.1 h1.2.2.1 h1.2.2.2 (kk p l e R s m args below meth c H locs n0 z0 lsA Q C hH hn0 hz0 hN hZ hlo hl fin)
theorem ev_tabOut {dflt lo hi : Int} {offs : Array Int} {len : Nat} {x : Int32} {tgt : Nat} (hd : decode M.2.1 pc = .ok (.tableswitch dflt lo hi offs, len)) (hx : x.toInt < lo ∨ hi < x.toInt) (ht : (pc : Int) + dflt = (tgt : Int)) (kk : EvW G M d N Z tgt lv st S μ K) : EvW G M d N Z pc lv (.int x :: st) S μ K := by
  intro p l e R s m args below meth c H locs n0 z0 lsA Q C hH hn0 hz0 hN hZ hlo hl fin
  exact lv_tableOut C.1 C.2.1 hd hx ht (kk p l e R s m args below meth c H locs n0 z0 lsA Q C hH hn0 hz0 hN hZ hlo hl fin)
theorem ev_ireturn {x : Int32} (hd : decode M.2.1 pc = .ok (.ireturn, 1)) (hr : rI M.2.2.2 = .ireturn) (hf : g_fit M.2.2.2 (some (.int x))) (h1 : S.1 = N) (h2 : S.2.1 = Z) (k : K (some (.int x)) S μ) : EvW G M d N Z pc lv [.int x] S μ K := by
  intro p l e R s m args below meth c H locs n0 z0 lsA Q C hH hn0 hz0 hN hZ hlo hl fin
  have w := fin (some (.int x)) S μ H locs pc lsA (by rw [hr]; exact hd) hf k hH h1 h2 hlo
  subst h1
  subst h2
  exact w
theorem ev_lreturn {x : Int64} (hd : decode M.2.1 pc = .ok (.lreturn, 1)) (hr : M.2.2.2 = some .long) (h1 : S.1 = N) (h2 : S.2.1 = Z) (k : K (some (.long x)) S μ) : EvW G M d N Z pc lv [.long x] S μ K := by
  intro p l e R s m args below meth c H locs n0 z0 lsA Q C hH hn0 hz0 hN hZ hlo hl fin
  have w := fin (some (.long x)) S μ H locs pc lsA (by rw [hr]; exact hd) (by rw [hr]; trivial) k hH h1 h2 hlo
  subst h1
  subst h2
  exact w
theorem ev_return (hd : decode M.2.1 pc = .ok (.return_, 1)) (hr : M.2.2.2 = none) (h1 : S.1 = N) (h2 : S.2.1 = Z) (k : K none S μ) : EvW G M d N Z pc lv [] S μ K := by
  intro p l e R s m args below meth c H locs n0 z0 lsA Q C hH hn0 hz0 hN hZ hlo hl fin
  have w := fin none S μ H locs pc lsA (by rw [hr]; exact hd) (by rw [hr]; trivial) k hH h1 h2 hlo
  subst h1
  subst h2
  exact w
end EV
