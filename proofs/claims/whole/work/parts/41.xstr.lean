/-! ===== text constants, and the methods of the JDK over them ===== -/
theorem CX.ex {G : GW} {M : MK} {d : Nat} {p : Program} {R : Room} {s : State} {m : MethodId} {args : Array Value} {meth : Method} {c : Code} (C : CX G M d p R s m args meth c) : EX G s := C.2.2.2.2.2.2.2.2.2.2
theorem g_adr_lo {G : GW} {a : Nat} (h : a < 10) : g_adr G a = G.2.1 a := if_pos h
theorem EX.str {G : GW} {U : State} (h : EX G U) {S : HS} {μ : Mem} {H : Heap} (hH : HR G S μ H) : vk_S 2 [8, 60] [scSigns, scWords] (fun i => G.2.1 (3 + i)) (fun i => G.2.1 (5 + i)) (g_A G) U H := h.2.2.2.1.2.2.kept (fun a ha _ => hH.2.2.1 a ha)
theorem fl_S_9 : Cond.fieldLink "java/lang/String" 9 "java/lang/String" "value" "[B" ∈ TW := (TWt6 136 rfl rfl)
theorem fl_S_15 : Cond.fieldLink "java/lang/String" 15 "java/lang/String" "coder" "B" ∈ TW := (TWt6 135 rfl rfl)
theorem fl_S_38 : Cond.fieldLink "java/lang/String" 38 "java/lang/String" "COMPACT_STRINGS" "Z" ∈ TW := (TWt2 153 rfl rfl)
theorem fl_S_1053 : Cond.fieldLink "java/lang/String" 1053 "jdk/internal/util/Preconditions" "SIOOBE_FORMATTER" "Ljava/util/function/BiFunction;" ∈ TW := (TWt2 161 rfl rfl)
theorem ml_La_92 : Cond.methodLink "java/lang/StringLatin1" 92 Lib.Math.max.name ∈ TW ∧ Cond.static Lib.Math.max.name ∈ TW ∧ Cond.initialized "java/lang/Math" ∈ TW ∧ Cond.code Lib.Math.max.name Lib.Math.max.code 2 (some .int) ∈ TW := ⟨(TWt2 216 rfl rfl), ml_7_202.2⟩
theorem ml_La_38 : Cond.methodLink "java/lang/StringLatin1" 38 Lib.Math.min.name ∈ TW ∧ Cond.static Lib.Math.min.name ∈ TW ∧ Cond.initialized "java/lang/Math" ∈ TW ∧ Cond.code Lib.Math.min.name Lib.Math.min.code 2 (some .int) ∈ TW := ⟨(TWt2 217 rfl rfl), ml_7_318.2⟩
def strL (i : Nat) : Nat := ([8, 60] : List Nat).getD i 0
def strB (i j : Nat) : Int32 := (([scSigns, scWords] : List (List Int32)).getD i []).getD j 0
section EVK
variable {G : GW} {M : MK} {d N Z pc : Nat} {lv : List (Nat × Value)} {st : List Value} {S : HS} {μ : Mem} {K : Option Value → HS → Mem → Prop}
theorem ev_ldcs42 (hM : M.1.cls = RX5) (hd : decode M.2.1 pc = .ok (.ldc 42, 2)) (kk : EvW G M d N Z (pc + 2) lv (.ref 3 :: st) S μ K) : EvW G M d N Z pc lv st S μ K := by
  intro p l e R s m args below meth c H locs n0 z0 lsA Q C hH hn0 hz0 hN hZ hlo hl fin
  have kw := kk p l e R s m args below meth c H locs n0 z0 lsA Q C hH hn0 hz0 hN hZ hlo hl fin
  have hown := C.2.2.2.1
  rw [hM] at hown
  rw [st_ref (show (3 : Nat) ≠ 0 by omega), g_adr_lo (by omega)] at kw
  exact va_ldcS C.1 C.2.1 hown C.ex.2.2.2.1.1 hd kw
theorem ev_ldcs54 (hM : M.1.cls = RX5) (hd : decode M.2.1 pc = .ok (.ldc 54, 2)) (kk : EvW G M d N Z (pc + 2) lv (.ref 4 :: st) S μ K) : EvW G M d N Z pc lv st S μ K := by
  intro p l e R s m args below meth c H locs n0 z0 lsA Q C hH hn0 hz0 hN hZ hlo hl fin
  have kw := kk p l e R s m args below meth c H locs n0 z0 lsA Q C hH hn0 hz0 hN hZ hlo hl fin
  have hown := C.2.2.2.1
  rw [hM] at hown
  rw [st_ref (show (4 : Nat) ≠ 0 by omega), g_adr_lo (by omega)] at kw
  exact va_ldcS C.1 C.2.1 hown C.ex.2.2.2.1.2.1 hd kw
theorem ev_kval {i : Nat} (hi : i < 2) (hM : M.1.cls = "java/lang/String") (hd : decode M.2.1 pc = .ok (.getfield 9, 3)) (kk : EvW G M d N Z (pc + 3) lv (.ref (5 + i) :: st) S μ K) : EvW G M d N Z pc lv (.ref (3 + i) :: st) S μ K := by
  intro p l e R s m args below meth c H locs n0 z0 lsA Q C hH hn0 hz0 hN hZ hlo hl fin
  have kw := kk p l e R s m args below meth c H locs n0 z0 lsA Q C hH hn0 hz0 hN hZ hlo hl fin
  have hown := C.2.2.2.1
  rw [hM] at hown
  rw [st_ref (show 5 + i ≠ 0 by omega), g_adr_lo (by omega)] at kw
  rw [st_ref (show 3 + i ≠ 0 by omega), g_adr_lo (by omega)]
  obtain ⟨cf, k, fi, f, cell, h1, h2, h3, h4, h5, -⟩ := ((C.ex.str hH).1 i hi).2.2.1
  exact W.getf C.1 C.2.1 hown (C.2.2.2.2.1 _ fl_S_9) h1 h2 h3 h4 (v := .ref (G.2.1 (5 + i))) h5 rfl rfl hd kw
theorem ev_kcod {i : Nat} (hi : i < 2) (hM : M.1.cls = "java/lang/String") (hd : decode M.2.1 pc = .ok (.getfield 15, 3)) (kk : EvW G M d N Z (pc + 3) lv (.int 0 :: st) S μ K) : EvW G M d N Z pc lv (.ref (3 + i) :: st) S μ K := by
  intro p l e R s m args below meth c H locs n0 z0 lsA Q C hH hn0 hz0 hN hZ hlo hl fin
  have kw := kk p l e R s m args below meth c H locs n0 z0 lsA Q C hH hn0 hz0 hN hZ hlo hl fin
  have hown := C.2.2.2.1
  rw [hM] at hown
  rw [st_ref (show 3 + i ≠ 0 by omega), g_adr_lo (by omega)]
  obtain ⟨cf, k, fi, f, cell, h1, h2, h3, h4, h5, -⟩ := ((C.ex.str hH).1 i hi).2.1
  exact W.getf C.1 C.2.1 hown (C.2.2.2.2.1 _ fl_S_15) h1 h2 h3 h4 (v := .int 0) h5 rfl rfl hd kw
theorem ev_kbal {i : Nat} (hi : i < 2) {x : Int32} (hin : vp_in x (strL i)) (hd : decode M.2.1 pc = .ok (.baload, 1)) (kk : EvW G M d N Z (pc + 1) lv (.int (strB i x.toNatClampNeg) :: st) S μ K) : EvW G M d N Z pc lv (.int x :: .ref (5 + i) :: st) S μ K := by
  intro p l e R s m args below meth c H locs n0 z0 lsA Q C hH hn0 hz0 hN hZ hlo hl fin
  have kw := kk p l e R s m args below meth c H locs n0 z0 lsA Q C hH hn0 hz0 hN hZ hlo hl fin
  obtain ⟨cell, h1, h2, h3, h4, h5, h6, -⟩ := ((C.ex.str hH).1 i hi).2.2.2
  show W p l e R s m args below meth c H locs _ _ Q (F0 m pc lsA (.int x :: List.map (cv G) (.ref (5 + i) :: st)))
  rw [st_ref (show 5 + i ≠ 0 by omega), g_adr_lo (by omega)]
  have hlt : x.toNatClampNeg < strL i := va_in_lt hin
  refine W.bald (v := .int (strB i x.toNatClampNeg)) C.1 C.2.1 h1 h2 h3 (fun q => ?_) (h6 _ hlt) rfl rfl hd kw
  rcases q with q | q
  · exact hin (Or.inl q)
  · have : strL i ≤ cell.slots.size := h4
    omega
theorem ev_kble {i : Nat} (hi : i < 2) {v : Int32} (hv : Int32.ofNat (strL i) = v) (hd : decode M.2.1 pc = .ok (.arraylength, 1)) (kk : EvW G M d N Z (pc + 1) lv (.int v :: st) S μ K) : EvW G M d N Z pc lv (.ref (5 + i) :: st) S μ K := by
  intro p l e R s m args below meth c H locs n0 z0 lsA Q C hH hn0 hz0 hN hZ hlo hl fin
  have kw := kk p l e R s m args below meth c H locs n0 z0 lsA Q C hH hn0 hz0 hN hZ hlo hl fin
  obtain ⟨cell, h1, h2, h3, h4, h5, h6, -⟩ := ((C.ex.str hH).1 i hi).2.2.2
  rw [st_ref (show 5 + i ≠ 0 by omega), g_adr_lo (by omega)]
  subst hv
  exact W.alen (n := Int32.ofNat (strL i)) C.1 C.2.1 h1 h2 h5 rfl rfl hd kw
theorem ev_getcs (hM : M.1.cls = "java/lang/String") (hd : decode M.2.1 pc = .ok (.getstatic 38, 3)) (kk : EvW G M d N Z (pc + 3) lv (.int 1 :: st) S μ K) : EvW G M d N Z pc lv st S μ K := by
  intro p l e R s m args below meth c H locs n0 z0 lsA Q C hH hn0 hz0 hN hZ hlo hl fin
  have kw := kk p l e R s m args below meth c H locs n0 z0 lsA Q C hH hn0 hz0 hN hZ hlo hl fin
  have hown := C.2.2.2.1
  rw [hM] at hown
  obtain ⟨cf, kf, fi, f, a, cell, h1, h2, h3, h4, h5, h6, h7, h8⟩ := C.ex.2.2.2.2.1
  exact W.gets (v := .int 1) C.1 C.2.1 hown (C.2.2.2.2.1 _ fl_S_38) h1 h2 h3 h4 (by rw [hH.2.2.1 _ (Array.getElem?_eq_some_iff.mp h5).1]; exact h5) (fun e9 => by rw [e9] at h6; cases h6) h7 rfl hd kw
theorem ev_getfm (hM : M.1.cls = "java/lang/String") (hd : decode M.2.1 pc = .ok (.getstatic 1053, 3)) (kk : ∀ b : Nat, EvW G M d N Z (pc + 3) lv (.ref b :: st) S μ K) : EvW G M d N Z pc lv st S μ K := by
  intro p l e R s m args below meth c H locs n0 z0 lsA Q C hH hn0 hz0 hN hZ hlo hl fin
  obtain ⟨b, hb, cf, kf, fi, f, a, cell, h1, h2, h3, h4, h5, h6, h7, h8⟩ := C.ex.2.2.2.2.2.1
  have kw := kk b p l e R s m args below meth c H locs n0 z0 lsA Q C hH hn0 hz0 hN hZ hlo hl fin
  have hown := C.2.2.2.1
  rw [hM] at hown
  exact W.gets (v := g_rf G b) C.1 C.2.1 hown (C.2.2.2.2.1 _ fl_S_1053) h1 h2 h3 h4 (by rw [hH.2.2.1 _ (Array.getElem?_eq_some_iff.mp h5).1]; exact h5) (fun e9 => by rw [e9] at h6; cases h6) h7 rfl hd kw
end EVK
section EVKC
variable {G : GW} {M M' : MK} {d d' N Z N' Z' pc idx n : Nat} {lv : List (Nat × Value)} {st stk as : List Value} {S : HS} {μ : Mem} {K K' : Option Value → HS → Mem → Prop}
/-- invokevirtual of a text constant's own method -/
theorem ev_callK {i : Nat} (hi : i < 2) (hM : mOK M' n) (hc : M'.1.cls = "java/lang/String") (hV : Cond.instanceMethod M'.1 ∈ TW ∧ Cond.selects M'.1.cls M'.1 M'.1 ∈ TW) (hS : Cond.methodLink M.1.cls idx M'.1 ∈ TW) (hd : decode M.2.1 pc = .ok (.invokevirtual idx, 3)) (hn : as.length = n)
    (hstk : as.reverse ++ .ref (3 + i) :: st = stk) (hsum : (st.map fun v => v.category).sum ≤ 8) (hlen : (lg_sl (.ref (3 + i) :: as)).length ≤ M'.2.2.1) (hdd : d' + 1 ≤ d) (hb : (S.1 ≤ N' ∧ N' ≤ N) ∧ S.2.1 ≤ Z' ∧ Z' ≤ Z)
    (hE : EvW G M' d' N' Z' 0 (lv_args 0 (.ref (3 + i) :: as)) [] S μ K') (kk : ∀ v S' μ', K' v S' μ' → g_fit M'.2.2.2 v → S'.1 = N' → S'.2.1 = Z' → EvW G M d N Z (pc + 3) lv (v.toList ++ st) S' μ' K) : EvW G M d N Z pc lv stk S μ K := by
  refine ev_call (st := st) (M' := M') (K' := K') ?_ hb kk
  intro p l e R s m args below meth c H locs cells slots lsA C hH hsz h1 h2
  have hnz : 3 + i ≠ 0 := by omega
  obtain ⟨cell, q1, q2, q3, -⟩ := ((C.ex.str hH).1 i hi).1
  refine ⟨_, va_runV (As := as.map (cv G)) (rest := st.map (cv G)) (C := M'.1.cls) (b := g_adr G (3 + i)) (Ts := TW) ⟨C.1, C.2.1, C.2.2.1, C.2.2.2.1, C.2.2.2.2.1⟩ (met_of hM.1 hlen hb.1.1 hb.2.1 hE l) (cwV (ws' := TW) n C.2.2.2.2.1 (goodTW ?_) rfl rfl rfl ⟨rfl, hM.2.1⟩ (g_room C.2.2.2.2.2.2.2.2.1 hM.2.2.2.2 hdd)) ⟨g_blind _ _ _ _, ⟨cell, by rw [g_adr_lo (by omega)]; exact q1, q2, by rw [hc]; exact q3⟩, fun U hU hW => ⟨by rw [st_ref hnz], by rw [hU]; exact hH, va_K.moved hW.alike C.2.2.2.2.2.2.2.2.2.1, EX.warm hW C.2.2.2.2.2.2.2.2.2.2⟩⟩ rfl (by rw [List.length_map]; exact hn) hsz ?_ (lv_room (by rw [g_cat]; exact hsum)) hd ⟨h1, h2⟩⟩
  · intro w hw
    unfold wsV at hw
    rcases List.mem_append.mp hw with h | h
    · simp only [List.mem_cons, List.not_mem_nil, or_false] at h
      rcases h with rfl | rfl | rfl | rfl
      · exact hS
      · exact hV.1
      · exact hV.2
      · exact hM.2.2.1
    · exact TW_ws hM h
  · show stk.map (cv G) = _
    rw [← hstk, List.map_append, st_ref hnz, List.map_reverse]
end EVKC
section EVK2
variable {G : GW} {M M' : MK} {d d' pc idx n : Nat} {lv : List (Nat × Value)} {st stk as : List Value} {μ : Mem} {K2 : Option Value → Mem → Prop}
theorem e2_callK {i : Nat} {w : Value} (hi : i < 2) (hM : mOK M' n) (hc : M'.1.cls = "java/lang/String") (hV : Cond.instanceMethod M'.1 ∈ TW ∧ Cond.selects M'.1.cls M'.1 M'.1 ∈ TW) (hS : Cond.methodLink M.1.cls idx M'.1 ∈ TW) (hd : decode M.2.1 pc = .ok (.invokevirtual idx, 3)) (hn : as.length = n) (hstk : as.reverse ++ .ref (3 + i) :: st = stk) (hsum : (st.map fun v => v.category).sum ≤ 8) (hlen : (lg_sl (.ref (3 + i) :: as)).length ≤ M'.2.2.1) (hdd : d' + 1 ≤ d)
    (hE : Ev2 G M' d' 0 (lv_args 0 (.ref (3 + i) :: as)) [] μ (fun v μ' => v = some w ∧ μ' = μ)) (kk : Ev2 G M d (pc + 3) lv (w :: st) μ K2) : Ev2 G M d pc lv stk μ K2 := by
  refine ev_callK hi hM hc hV hS hd hn hstk hsum hlen hdd e_b2 hE ?_
  rintro v S' μ' ⟨rfl, rfl, rfl⟩ - - -
  exact kk
end EVK2
theorem ct_Pr_checkIndex {G : GW} (x n : Int32) (b : Nat) (μ : Mem) (h0 : ¬ x < 0) (h1 : x < n) : Ev2 G mPr_checkIndex 1 0 [(0, .int x), (1, .int n), (2, .ref b)] [] μ (fun v μ' => v = some (.int x) ∧ μ' = μ) := by
  refine ev_iload_n dPr_checkIndex_0 0 rfl ?_
  refine ev_if_lt (tgt := 9) dPr_checkIndex_1 rfl (fun c => absurd c h0) (fun _ => ?_)
  refine ev_iload_n dPr_checkIndex_4 0 rfl ?_
  refine ev_iload_n dPr_checkIndex_5 1 rfl ?_
  refine ev_icmp_lt (tgt := 16) dPr_checkIndex_6 rfl (fun _ => ?_) (fun c => absurd h1 c)
  refine ev_iload_n dPr_checkIndex_16 0 rfl ?_
  exact ev_ireturn dPr_checkIndex_17 rfl True.intro rfl rfl ⟨rfl, rfl, rfl⟩
theorem ct_S_checkIndex {G : GW} (x n : Int32) (μ : Mem) (h0 : ¬ x < 0) (h1 : x < n) : Ev2 G mS_checkIndex 2 0 [(0, .int x), (1, .int n)] [] μ (fun v μ' => v = none ∧ μ' = μ) := by
  refine ev_iload_n dS_checkIndex_0 0 rfl ?_
  refine ev_iload_n dS_checkIndex_1 1 rfl ?_
  refine ev_getfm rfl dS_checkIndex_2 (fun b => ?_)
  refine e2_callS (w := .int x) (μ1 := μ) (as := [.int x, .int n, .ref b]) (st := []) ok_Pr_checkIndex sv_Pr_checkIndex ml_S_1059 dS_checkIndex_5 rfl rfl (Nat.le_of_ble_eq_true rfl) (Nat.le_of_ble_eq_true rfl) (by decide) (ct_Pr_checkIndex x n b μ h0 h1) ?_
  refine ev_pop dS_checkIndex_8 rfl ?_
  exact ev_return dS_checkIndex_9 rfl rfl rfl ⟨rfl, rfl, rfl⟩
theorem ct_S_isLatin1 {G : GW} {i : Nat} (hi : i < 2) (μ : Mem) : Ev2 G mS_isLatin1 1 0 [(0, .ref (3 + i))] [] μ (fun v μ' => v = some (.int 1) ∧ μ' = μ) := by
  refine ev_getcs rfl dS_isLatin1_0 ?_
  refine ev_if_eq (tgt := 17) dS_isLatin1_3 rfl (fun c => absurd c (by decide)) (fun _ => ?_)
  refine ev_aload_n dS_isLatin1_6 0 rfl (by omega) ?_
  refine ev_kcod hi rfl dS_isLatin1_7 ?_
  refine ev_if_ne (tgt := 17) dS_isLatin1_10 rfl (fun c => absurd rfl c) (fun _ => ?_)
  refine ev_iconst (v := 1) dS_isLatin1_13 rfl ?_
  refine ev_goto (tgt := 18) dS_isLatin1_14 rfl ?_
  exact ev_ireturn dS_isLatin1_18 rfl rfl rfl rfl ⟨rfl, rfl, rfl⟩
theorem ct_S_coder {G : GW} {i : Nat} (hi : i < 2) (μ : Mem) : Ev2 G mS_coder 1 0 [(0, .ref (3 + i))] [] μ (fun v μ' => v = some (.int 0) ∧ μ' = μ) := by
  refine ev_getcs rfl dS_coder_0 ?_
  refine ev_if_eq (tgt := 13) dS_coder_3 rfl (fun c => absurd c (by decide)) (fun _ => ?_)
  refine ev_aload_n dS_coder_6 0 rfl (by omega) ?_
  refine ev_kcod hi rfl dS_coder_7 ?_
  refine ev_goto (tgt := 14) dS_coder_10 rfl ?_
  exact ev_ireturn dS_coder_14 rfl rfl rfl rfl ⟨rfl, rfl, rfl⟩
theorem ct_S_length {G : GW} (μ : Mem) : Ev2 G mS_length 2 0 [(0, .ref 3)] [] μ (fun v μ' => v = some (.int 8) ∧ μ' = μ) := by
  refine ev_aload_n dS_length_0 0 rfl (by omega) ?_
  refine ev_kval (i := 0) (by omega) rfl dS_length_1 ?_
  refine ev_kble (i := 0) (v := 8) (by omega) rfl dS_length_4 ?_
  refine ev_aload_n dS_length_5 0 rfl (by omega) ?_
  refine e2_callK (i := 0) (w := .int 0) (as := []) (st := [.int 8]) (by omega) ok_S_coder rfl vi_S_coder ml_S_335 dS_length_6 rfl rfl (Nat.le_of_ble_eq_true rfl) (Nat.le_of_ble_eq_true rfl) (by decide) (ct_S_coder (by omega) μ) ?_
  refine ev_ishr dS_length_9 ?_
  exact ev_ireturn dS_length_10 rfl True.intro rfl rfl ⟨rfl, rfl, rfl⟩
/-! charAt of the words -/
def scW (x : Int32) : Int32 := scWords.getD x.toNatClampNeg 0
theorem scW_char : ∀ j, j < 60 → ((strB 1 j &&& 255).toUInt32 % 65536).toInt32 = scWords.getD j 0 ∧ narrow .char (.int (scWords.getD j 0)) = .int (scWords.getD j 0) := by decide +kernel
theorem ct_La_charAt {G : GW} (x : Int32) (μ : Mem) (hin : vp_in x 60) : Ev2 G mLa_charAt 3 0 [(0, .ref 6), (1, .int x)] [] μ (fun v μ' => v = some (.int (scW x)) ∧ μ' = μ) := by
  obtain ⟨j, hj, rfl⟩ := vp_in_of hin (by omega)
  obtain ⟨e1, e2⟩ := scW_char j hj
  have ew : scW (nI j) = scWords.getD j 0 := by unfold scW; rw [ix_nI (by omega)]
  rw [ew]
  refine ev_iload_n dLa_charAt_0 1 rfl ?_
  refine ev_aload_n dLa_charAt_1 0 rfl (by omega) ?_
  refine ev_kble (i := 1) (v := 60) (by omega) rfl dLa_charAt_2 ?_
  refine e2_callSv (μ1 := μ) (as := [.int (nI j), .int 60]) (st := []) ok_S_checkIndex sv_S_checkIndex ml_La_9 dLa_charAt_3 rfl rfl (Nat.le_of_ble_eq_true rfl) (Nat.le_of_ble_eq_true rfl) (by decide) (ct_S_checkIndex (nI j) 60 μ (nI_pos (by omega)) (nI_lt (b := 60) hj (by omega))) ?_
  refine ev_aload_n dLa_charAt_6 0 rfl (by omega) ?_
  refine ev_iload_n dLa_charAt_7 1 rfl ?_
  refine ev_kbal (i := 1) (by omega) hin dLa_charAt_8 ?_
  refine ev_sipush (v := 255) dLa_charAt_9 rfl ?_
  refine ev_iand dLa_charAt_12 ?_
  refine ev_i2c dLa_charAt_13 ?_
  rw [ix_nI (by omega), e1]
  exact ev_ireturn dLa_charAt_14 rfl e2 rfl rfl ⟨rfl, rfl, rfl⟩
theorem ct_S_charAt {G : GW} (x : Int32) (μ : Mem) (hin : vp_in x 60) : Ev2 G mS_charAt 4 0 [(0, .ref 4), (1, .int x)] [] μ (fun v μ' => v = some (.int (scW x)) ∧ μ' = μ) := by
  refine ev_aload_n dS_charAt_0 0 rfl (by omega) ?_
  refine e2_callK (i := 1) (w := .int 1) (as := []) (st := []) (by omega) ok_S_isLatin1 rfl vi_S_isLatin1 ml_S_492 dS_charAt_1 rfl rfl (Nat.le_of_ble_eq_true rfl) (Nat.le_of_ble_eq_true rfl) (by decide) (ct_S_isLatin1 (by omega) μ) ?_
  refine ev_if_eq (tgt := 16) dS_charAt_4 rfl (fun c => absurd c (by decide)) (fun _ => ?_)
  refine ev_aload_n dS_charAt_7 0 rfl (by omega) ?_
  refine ev_kval (i := 1) (by omega) rfl dS_charAt_8 ?_
  refine ev_iload_n dS_charAt_11 1 rfl ?_
  refine e2_callS (w := .int (scW x)) (μ1 := μ) (as := [.ref 6, .int x]) (st := []) ok_La_charAt sv_La_charAt ml_S_495 dS_charAt_12 rfl rfl (Nat.le_of_ble_eq_true rfl) (Nat.le_of_ble_eq_true rfl) (by decide) (ct_La_charAt x μ hin) ?_
  refine ev_ireturn dS_charAt_15 rfl ?_ rfl rfl ⟨rfl, rfl, rfl⟩
  obtain ⟨j, hj, rfl⟩ := vp_in_of hin (by omega)
  unfold scW
  rw [ix_nI (by omega)]
  exact (scW_char j hj).2
theorem ev_charAt {G : GW} {M : MK} {d pc : Nat} {lv : List (Nat × Value)} {st : List Value} {μ : Mem} {K : Option Value → Mem → Prop} {x : Int32} (hin : vp_in x 60) (hM : M.1.cls = RX5) (hd : decode M.2.1 pc = .ok (.invokevirtual 56, 3)) (hsum : (st.map fun v => v.category).sum ≤ 8) (hdd : 9 ≤ d) (kk : Ev2 G M d (pc + 3) lv (.int (scW x) :: st) μ K) : Ev2 G M d pc lv (.int x :: .ref 4 :: st) μ K :=
  e2_callK (i := 1) (w := .int (scW x)) (as := [.int x]) (st := st) (by omega) ok_S_charAt rfl vi_S_charAt (by rw [hM]; exact ml_X5_56) hd rfl rfl hsum (Nat.le_of_ble_eq_true rfl) (show 4 + 1 ≤ d by omega) (ct_S_charAt x μ hin) kk
/-! indexOf in the signs -/
def scG (v : Int32) : Nat → Int32
  | 0 => -1
  | j + 1 => if scSigns.getD (7 - j) 0 = v then nI (7 - j) else scG v j
def scI (x : Int32) : Int32 := if x < 0 then -1 else if 255 < x then -1 else scG (Int32.toInt8 x).toInt32 8
theorem lp_La_indexOfChar {G : GW} (x v : Int32) (μ : Mem) : ∀ j i, i + j = 8 → Ev2 G mLa_indexOfChar 1 7 [(0, .ref 5), (1, .int x), (2, .int 0), (3, .int 8), (4, .int v), (5, .int (nI i))] [] μ (fun w μ' => w = some (.int (scG v j)) ∧ μ' = μ) := by
  intro j
  induction j with
  | zero =>
    intro i hi
    obtain rfl : i = 8 := by omega
    refine ev_iload dLa_indexOfChar_7 5 rfl ?_
    refine ev_iload_n dLa_indexOfChar_9 3 rfl ?_
    refine ev_icmp_ge (tgt := 31) dLa_indexOfChar_10 rfl (fun _ => ?_) (fun c => absurd (nI_le (a := 8) (Nat.le_refl 8) (by omega)) c)
    refine ev_iconst (v := -1) dLa_indexOfChar_31 rfl ?_
    exact ev_ireturn dLa_indexOfChar_32 rfl True.intro rfl rfl ⟨rfl, rfl, rfl⟩
  | succ j ih =>
    intro i hi
    have h := ih (i + 1) (by omega)
    have ep : scG v (j + 1) = if scSigns.getD i 0 = v then nI i else scG v j := by
      rw [show i = 7 - j by omega]
      rfl
    rw [ep]
    refine ev_iload dLa_indexOfChar_7 5 rfl ?_
    refine ev_iload_n dLa_indexOfChar_9 3 rfl ?_
    refine ev_icmp_ge (tgt := 31) dLa_indexOfChar_10 rfl (fun c => absurd c (nI_ge (a := i) (b := 8) (by omega) (by omega))) (fun _ => ?_)
    refine ev_aload_n dLa_indexOfChar_13 0 rfl (by omega) ?_
    refine ev_iload dLa_indexOfChar_14 5 rfl ?_
    refine ev_kbal (i := 0) (by omega) (show vp_in (nI i) 8 from vp_nI (by omega) (by omega)) dLa_indexOfChar_16 ?_
    refine ev_iload dLa_indexOfChar_17 4 rfl ?_
    rw [ix_nI (by omega)]
    refine ev_icmp_ne (tgt := 25) dLa_indexOfChar_19 rfl (fun c => ?_) (fun c => ?_)
    · have c : ¬ scSigns.getD i 0 = v := c
      rw [if_neg c]
      refine ev_iinc (v := nI (i + 1)) (lv' := [(0, .ref 5), (1, .int x), (2, .int 0), (3, .int 8), (4, .int v), (5, .int (nI (i + 1)))]) dLa_indexOfChar_25 5 rfl (nI_1 i) (by decide) [1, 2, 3, 4, 5, 0] rfl ?_
      refine ev_goto (tgt := 7) dLa_indexOfChar_28 rfl ?_
      exact h
    · have c : scSigns.getD i 0 = v := c
      rw [if_pos c]
      refine ev_iload dLa_indexOfChar_22 5 rfl ?_
      exact ev_ireturn dLa_indexOfChar_24 rfl True.intro rfl rfl ⟨rfl, rfl, rfl⟩
theorem ct_La_indexOfChar {G : GW} (x : Int32) (μ : Mem) : Ev2 G mLa_indexOfChar 1 0 [(0, .ref 5), (1, .int x), (2, .int 0), (3, .int 8)] [] μ (fun w μ' => w = some (.int (scG (Int32.toInt8 x).toInt32 8)) ∧ μ' = μ) := by
  refine ev_iload_n dLa_indexOfChar_0 1 rfl ?_
  refine ev_i2b dLa_indexOfChar_1 ?_
  refine ev_istore (lv' := [(0, .ref 5), (1, .int x), (2, .int 0), (3, .int 8), (4, .int (Int32.toInt8 x).toInt32)]) dLa_indexOfChar_2 (by decide) [1, 2, 3, 4, 0] rfl ?_
  refine ev_iload_n dLa_indexOfChar_4 2 rfl ?_
  refine ev_istore (lv' := [(0, .ref 5), (1, .int x), (2, .int 0), (3, .int 8), (4, .int (Int32.toInt8 x).toInt32), (5, .int 0)]) dLa_indexOfChar_5 (by decide) [1, 2, 3, 4, 5, 0] rfl ?_
  exact lp_La_indexOfChar x _ μ 8 0 rfl
theorem ct_La_canEncode {G : GW} (x : Int32) (μ : Mem) : Ev2 G mLa_canEncode 1 0 [(0, .int x)] [] μ (fun w μ' => w = some (.int (bi (!decide (x < 0) && !decide (255 < x)))) ∧ μ' = μ) := by
  refine ev_iload_n dLa_canEncode_0 0 rfl ?_
  refine ev_if_lt (tgt := 15) dLa_canEncode_1 rfl (fun c => ?_) (fun c => ?_)
  · refine ev_iconst (v := 0) dLa_canEncode_15 rfl ?_
    exact ev_ireturn dLa_canEncode_16 rfl rfl rfl rfl ⟨rfl, by simp [c, bi], rfl⟩
  · refine ev_iload_n dLa_canEncode_4 0 rfl ?_
    refine ev_sipush (v := 255) dLa_canEncode_5 rfl ?_
    refine ev_icmp_gt (tgt := 15) dLa_canEncode_8 rfl (fun c2 => ?_) (fun c2 => ?_)
    · refine ev_iconst (v := 0) dLa_canEncode_15 rfl ?_
      exact ev_ireturn dLa_canEncode_16 rfl rfl rfl rfl ⟨rfl, by simp [c2, bi], rfl⟩
    · refine ev_iconst (v := 1) dLa_canEncode_11 rfl ?_
      refine ev_goto (tgt := 16) dLa_canEncode_12 rfl ?_
      exact ev_ireturn dLa_canEncode_16 rfl rfl rfl rfl ⟨rfl, by simp only [c, c2, bi, decide_false, Bool.not_false, Bool.and_self, if_true], rfl⟩
theorem ct_La_indexOf {G : GW} (x : Int32) (μ : Mem) : Ev2 G mLa_indexOf 3 0 [(0, .ref 5), (1, .int x), (2, .int 0), (3, .int 8)] [] μ (fun w μ' => w = some (.int (scI x)) ∧ μ' = μ) := by
  refine ev_iload_n dLa_indexOf_0 1 rfl ?_
  refine e2_callS (w := .int (bi (!decide (x < 0) && !decide (255 < x)))) (μ1 := μ) (as := [.int x]) (st := []) ok_La_canEncode sv_La_canEncode ml_La_88 dLa_indexOf_1 rfl rfl (Nat.le_of_ble_eq_true rfl) (Nat.le_of_ble_eq_true rfl) (by decide) (ct_La_canEncode x μ) ?_
  refine ev_ifne_bi (tgt := 9) dLa_indexOf_4 rfl (fun c => ?_) (fun c => ?_)
  · have ex : scI x = scG (Int32.toInt8 x).toInt32 8 := by
      simp only [Bool.and_eq_true, Bool.not_eq_true', decide_eq_false_iff_not] at c
      unfold scI
      rw [if_neg c.1, if_neg c.2]
    rw [ex]
    refine ev_iload_n dLa_indexOf_9 2 rfl ?_
    refine ev_iconst (v := 0) dLa_indexOf_10 rfl ?_
    refine ev_max ml_La_92 dLa_indexOf_11 (Nat.le_of_ble_eq_true rfl) (by decide) ⟨Nat.le_refl _, Nat.le_refl _⟩ ?_
    refine ev_istore_n (lv' := [(0, .ref 5), (1, .int x), (2, .int 0), (3, .int 8)]) dLa_indexOf_14 (by decide) [1, 2, 0, 3] rfl ?_
    refine ev_iload_n dLa_indexOf_15 3 rfl ?_
    refine ev_aload_n dLa_indexOf_16 0 rfl (by omega) ?_
    refine ev_kble (i := 0) (v := 8) (by omega) rfl dLa_indexOf_17 ?_
    refine ev_min ml_La_38 dLa_indexOf_18 (Nat.le_of_ble_eq_true rfl) (by decide) ⟨Nat.le_refl _, Nat.le_refl _⟩ ?_
    refine ev_istore_n (lv' := [(0, .ref 5), (1, .int x), (2, .int 0), (3, .int 8)]) dLa_indexOf_21 (by decide) [1, 2, 3, 0] rfl ?_
    refine ev_iload_n dLa_indexOf_22 2 rfl ?_
    refine ev_iload_n dLa_indexOf_23 3 rfl ?_
    refine ev_icmp_lt (tgt := 29) dLa_indexOf_24 rfl (fun _ => ?_) (fun c2 => absurd (by decide) c2)
    refine ev_aload_n dLa_indexOf_29 0 rfl (by omega) ?_
    refine ev_iload_n dLa_indexOf_30 1 rfl ?_
    refine ev_iload_n dLa_indexOf_31 2 rfl ?_
    refine ev_iload_n dLa_indexOf_32 3 rfl ?_
    refine e2_callS (w := .int (scG (Int32.toInt8 x).toInt32 8)) (μ1 := μ) (as := [.ref 5, .int x, .int 0, .int 8]) (st := []) ok_La_indexOfChar sv_La_indexOfChar ml_La_95 dLa_indexOf_33 rfl rfl (Nat.le_of_ble_eq_true rfl) (Nat.le_of_ble_eq_true rfl) (by decide) (ct_La_indexOfChar x μ) ?_
    exact ev_ireturn dLa_indexOf_36 rfl True.intro rfl rfl ⟨rfl, rfl, rfl⟩
  · have ex : scI x = -1 := by
      unfold scI
      by_cases c1 : x < 0
      · rw [if_pos c1]
      · by_cases c2 : 255 < x
        · rw [if_neg c1, if_pos c2]
        · simp [c1, c2] at c
    rw [ex]
    refine ev_iconst (v := -1) dLa_indexOf_7 rfl ?_
    exact ev_ireturn dLa_indexOf_8 rfl True.intro rfl rfl ⟨rfl, rfl, rfl⟩
theorem ct_S_indexOf2 {G : GW} (x : Int32) (μ : Mem) : Ev2 G mS_indexOf2 4 0 [(0, .ref 3), (1, .int x), (2, .int 0)] [] μ (fun w μ' => w = some (.int (scI x)) ∧ μ' = μ) := by
  refine ev_aload_n dS_indexOf2_0 0 rfl (by omega) ?_
  refine e2_callK (i := 0) (w := .int 1) (as := []) (st := []) (by omega) ok_S_isLatin1 rfl vi_S_isLatin1 ml_S_492 dS_indexOf2_1 rfl rfl (Nat.le_of_ble_eq_true rfl) (Nat.le_of_ble_eq_true rfl) (by decide) (ct_S_isLatin1 (by omega) μ) ?_
  refine ev_if_eq (tgt := 23) dS_indexOf2_4 rfl (fun c => absurd c (by decide)) (fun _ => ?_)
  refine ev_aload_n dS_indexOf2_7 0 rfl (by omega) ?_
  refine ev_kval (i := 0) (by omega) rfl dS_indexOf2_8 ?_
  refine ev_iload_n dS_indexOf2_11 1 rfl ?_
  refine ev_iload_n dS_indexOf2_12 2 rfl ?_
  refine ev_aload_n dS_indexOf2_13 0 rfl (by omega) ?_
  refine e2_callK (i := 0) (w := .int 8) (as := []) (st := [.int 0, .int x, .ref 5]) (by omega) ok_S_length rfl vi_S_length ml_S_505 dS_indexOf2_14 rfl rfl (Nat.le_of_ble_eq_true rfl) (Nat.le_of_ble_eq_true rfl) (by decide) (ct_S_length μ) ?_
  refine e2_callS (w := .int (scI x)) (μ1 := μ) (as := [.ref 5, .int x, .int 0, .int 8]) (st := []) ok_La_indexOf sv_La_indexOf ml_S_637 dS_indexOf2_17 rfl rfl (Nat.le_of_ble_eq_true rfl) (Nat.le_of_ble_eq_true rfl) (by decide) (ct_La_indexOf x μ) ?_
  refine ev_goto (tgt := 36) dS_indexOf2_20 rfl ?_
  exact ev_ireturn dS_indexOf2_36 rfl True.intro rfl rfl ⟨rfl, rfl, rfl⟩
theorem ct_S_indexOf {G : GW} (x : Int32) (μ : Mem) : Ev2 G mS_indexOf 5 0 [(0, .ref 3), (1, .int x)] [] μ (fun w μ' => w = some (.int (scI x)) ∧ μ' = μ) := by
  refine ev_aload_n dS_indexOf_0 0 rfl (by omega) ?_
  refine ev_iload_n dS_indexOf_1 1 rfl ?_
  refine ev_iconst (v := 0) dS_indexOf_2 rfl ?_
  refine e2_callK (i := 0) (w := .int (scI x)) (as := [.int x, .int 0]) (st := []) (by omega) ok_S_indexOf2 rfl vi_S_indexOf2 ml_S_633 dS_indexOf_3 rfl rfl (Nat.le_of_ble_eq_true rfl) (Nat.le_of_ble_eq_true rfl) (by decide) (ct_S_indexOf2 x μ) ?_
  exact ev_ireturn dS_indexOf_6 rfl True.intro rfl rfl ⟨rfl, rfl, rfl⟩
theorem ev_indexOf {G : GW} {M : MK} {d pc : Nat} {lv : List (Nat × Value)} {st : List Value} {μ : Mem} {K : Option Value → Mem → Prop} {x : Int32} (hM : M.1.cls = RX5) (hd : decode M.2.1 pc = .ok (.invokevirtual 44, 3)) (hsum : (st.map fun v => v.category).sum ≤ 8) (hdd : 9 ≤ d) (kk : Ev2 G M d (pc + 3) lv (.int (scI x) :: st) μ K) : Ev2 G M d pc lv (.int x :: .ref 3 :: st) μ K :=
  e2_callK (i := 0) (w := .int (scI x)) (as := [.int x]) (st := st) (by omega) ok_S_indexOf rfl vi_S_indexOf (by rw [hM]; exact ml_X5_44) hd rfl rfl hsum (Nat.le_of_ble_eq_true rfl) (show 5 + 1 ≤ d by omega) (ct_S_indexOf x μ) kk
