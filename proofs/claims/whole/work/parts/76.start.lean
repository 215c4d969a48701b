/-! ===== the start: what stands outside ===== -/
theorem LT1 {w : Cond} (i : Nat) (h : tables_1_1[i]? = some w) : w ∈ lw_tbl := List.mem_append_right _ (List.mem_append_left _ (List.mem_of_getElem? h))
theorem LT2 {w : Cond} (i : Nat) (h : tables_1_2[i]? = some w) : w ∈ lw_tbl := List.mem_append_right _ (List.mem_append_right _ (List.mem_append_left _ (List.mem_of_getElem? h)))
theorem LT3 {w : Cond} (i : Nat) (h : tables_1_3[i]? = some w) : w ∈ lw_tbl := List.mem_append_right _ (List.mem_append_right _ (List.mem_append_right _ (List.mem_append_left _ (List.mem_of_getElem? h))))
theorem LT4 {w : Cond} (i : Nat) (h : tables_1_4[i]? = some w) : w ∈ lw_tbl := List.mem_append_right _ (List.mem_append_right _ (List.mem_append_right _ (List.mem_append_right _ (List.mem_append_left _ (List.mem_of_getElem? h)))))
theorem LT5 {w : Cond} (i : Nat) (h : tables_1_5[i]? = some w) : w ∈ lw_tbl := List.mem_append_right _ (List.mem_append_right _ (List.mem_append_right _ (List.mem_append_right _ (List.mem_append_right _ (List.mem_append_left _ (List.mem_of_getElem? h))))))
theorem LT6 {w : Cond} (i : Nat) (h : tables_1_6[i]? = some w) : w ∈ lw_tbl := List.mem_append_right _ (List.mem_append_right _ (List.mem_append_right _ (List.mem_append_right _ (List.mem_append_right _ (List.mem_append_right _ (List.mem_of_getElem? h))))))
def kaT : Term := .static "HorsesOwnWays" "KIND_ABOVE" "[I"
def tmS (i : Nat) : Term := .string "HorsesOwnWays$Tape" (if i = 0 then 42 else 54)
abbrev FC : List Cond := flatC (Jvm.Cond.and given_1 narrow_1)
theorem fc_ka1 : Cond.arrayOf kaT .int ∈ FC := by decide +kernel
theorem fc_ka2 : Cond.eq (.length kaT) (.int (Int32.ofNat 6)) ∈ FC := by decide +kernel
theorem fc_ka3 : ∀ j, j < 6 → Cond.eq (.elem kaT (.int (Int32.ofNat j))) (.int (kaV j)) ∈ FC := by decide +kernel
theorem fc_cs : Cond.eq (.static "java/lang/String" "COMPACT_STRINGS" "Z") (.int 1) ∈ FC := by decide +kernel
theorem fc_fm : Cond.isRef (.static "jdk/internal/util/Preconditions" "SIOOBE_FORMATTER" "Ljava/util/function/BiFunction;") ∈ FC := by decide +kernel
theorem fc_s1 : ∀ i, i < 2 → Cond.exactly (tmS i) "java/lang/String" ∈ FC := by decide +kernel
theorem fc_s2 : ∀ i, i < 2 → Cond.eq (.field (tmS i) "java/lang/String" "coder" "B") (.int 0) ∈ FC := by decide +kernel
theorem fc_s3 : ∀ i, i < 2 → Cond.arrayOf (.field (tmS i) "java/lang/String" "value" "[B") .byte ∈ FC := by decide +kernel
theorem fc_s4 : ∀ i, i < 2 → Cond.eq (.length (.field (tmS i) "java/lang/String" "value" "[B")) (.int (Int32.ofNat (([8, 60] : List Nat).getD i 0))) ∈ FC := by decide +kernel
theorem fc_s5 : ∀ i, i < 2 → ∀ j, j < ([8, 60] : List Nat).getD i 0 → Cond.eq (.elem (.field (tmS i) "java/lang/String" "value" "[B") (.int (Int32.ofNat j))) (.int ((([scSigns, scWords] : List (List Int32)).getD i []).getD j 0)) ∈ FC := by decide +kernel
theorem fc_s6 : Cond.not (Cond.eq (tmS 1) (tmS 0)) ∈ FC := by decide +kernel
section ARR
variable {s : State} {args : Array Value}
theorem arr_prim {ty : FieldType} (h : (Cond.arrayClass ty).before args s = true) : ∃ cA : ClassId, ArrOfT s cA ty ∧ s.vm.findClass ("[" ++ ty.toString) = some cA := by
  obtain ⟨c, k, comp, h1, h2, h3⟩ := Cond.arrayClass_spec h
  exact ⟨c, fun n z => ⟨fun q hq => by simp [arrV] at hq, k, h2, comp, h3⟩, h1⟩
theorem arr_obj {C : String} (h : (Cond.arrayOver (.object C)).before args s = true) : ∃ cA : ClassId, ArrOfT s cA (.object C) ∧ va_RA s cA (.object C) := by
  obtain ⟨comp, c, k, h1, -, h3, h4, h5⟩ := Cond.arrayOver_spec h
  exact ⟨c, fun n z => ⟨fun q hq => by simp [arrV] at hq, k, h3, comp, h4⟩, k, comp, h3, h4, h1, h5⟩
theorem arr_arr {t : FieldType} (h : (Cond.arrayOver (.array t)).before args s = true) : ∃ cA : ClassId, ArrOfT s cA (.array t) ∧ s.vm.findClass ("[" ++ (FieldType.array t).toString) = some cA := by
  obtain ⟨comp, c, k, h1, -, h3, h4, h5⟩ := arrayOverA_spec h
  exact ⟨c, fun n z => ⟨fun q hq => by simp [arrV] at hq, k, h3, comp, h4⟩, h5⟩
end ARR
set_option maxRecDepth 100000 in
theorem start_G {s : State} {b L : Nat} {xs : Nat → Int32} (hts : ∀ w ∈ lw_tbl, w.before #[Value.ref b] s = true) (hX : va_X b L xs s s.heap) (hgv : (Jvm.Cond.and given_1 narrow_1).before #[Value.ref b] s = true) : ∃ G : GW, G.1 = s.heap ∧ G.2.1 1 = b ∧ G.2.2.2.2.1 = L ∧ TK G s ∧ EX G s := by
  have hs := flat_of_before _ hgv
  have hTW : ∀ w ∈ TW, w.before #[Value.ref b] s = true := fun w hw => hts w (TW_in hw)
  have hA : ∀ a : Nat, a < s.heap.size → ¬ (fun q : Nat => s.heap.size ≤ q) a := fun a h h' => Nat.not_le.mpr h h'
  obtain ⟨c0, i0, k0⟩ := u_known (ws := TW) hTW CL_0.2.1 (hTW _ kl_7_14.2.1)
  obtain ⟨c1, i1, k1⟩ := u_known (ws := TW) hTW CL_1.2.1 (hTW _ kl_7_47.2.1)
  obtain ⟨c2, i2, k2⟩ := u_known (ws := TW) hTW CL_2.2.1 (hTW _ kl_7_33.2.1)
  obtain ⟨c3, i3, k3⟩ := u_known (ws := TW) hTW CL_3.2.1 (hTW _ kl_7_40.2.1)
  obtain ⟨c4, i4, k4⟩ := u_known (ws := TW) hTW CL_4.2.1 (hTW _ kl_7_54.2.1)
  obtain ⟨c5, i5, k5⟩ := u_known (ws := TW) hTW CL_5.2.1 (hTW _ kl_2_9.2.1)
  obtain ⟨c6, i6, k6⟩ := u_known (ws := TW) hTW CL_6.2.1 (hTW _ kl_7_27.2.1)
  obtain ⟨c7, i7, k7⟩ := u_known (ws := TW) hTW CL_7.2.1 (hTW _ kl_L_7.2.1)
  obtain ⟨c8, i8, k8⟩ := u_known (ws := TW) hTW CL_8.2.1 (hTW _ kl_L_10.2.1)
  obtain ⟨dC, dI, hKc⟩ : ∃ (dC : Nat → ClassId) (dI : Nat → Nat → Nat), ∀ (k : Nat) (q : vw_C), vwCl[k]? = some q → u_Kn s q.1 q.2.1 q.2.2 (dC k) (dI k) := by
    refine ⟨fun k => match k with | 0 => c0 | 1 => c1 | 2 => c2 | 3 => c3 | 4 => c4 | 5 => c5 | 6 => c6 | 7 => c7 | _ => c8, fun k => match k with | 0 => i0 | 1 => i1 | 2 => i2 | 3 => i3 | 4 => i4 | 5 => i5 | 6 => i6 | 7 => i7 | _ => i8, ?_⟩
    intro k q hq
    match k, hq with
    | 0, hq => cases hq; exact k0
    | 1, hq => cases hq; exact k1
    | 2, hq => cases hq; exact k2
    | 3, hq => cases hq; exact k3
    | 4, hq => cases hq; exact k4
    | 5, hq => cases hq; exact k5
    | 6, hq => cases hq; exact k6
    | 7, hq => cases hq; exact k7
    | 8, hq => cases hq; exact k8
    | k + 9, hq => simp at hq
  obtain ⟨aI, ai1, ai2⟩ := arr_prim (hTW _ ac_int)
  obtain ⟨aZ, az1, az2⟩ := arr_prim (hTW _ ac_boolean)
  obtain ⟨aC, ac1, ac2⟩ := arr_prim (hTW _ ac_char)
  obtain ⟨aA, aa1, aa2⟩ := arr_arr (t := .int) (hts _ (LT1 26 rfl))
  obtain ⟨aH, ah1, ah2⟩ := arr_obj (C := RX0) (hts _ (LT1 28 rfl))
  obtain ⟨aT, at1, at2⟩ := arr_obj (C := RX6) (hts _ (LT1 30 rfl))
  obtain ⟨aS, as1, as2⟩ := arr_obj (C := RX4) (hts _ (LT1 142 rfl))
  obtain ⟨t, ht, hT⟩ := va_Tof (args := #[Value.ref b]) (s := s) (tm := kaT) (ty := .int) (N := 6) (f := fun j => .int (kaV j)) (A := fun q : Nat => s.heap.size ≤ q) (by omega) (hs _ fc_ka1) (va_eqt (hs _ fc_ka2)) (fun j hj => va_eqt (hs _ (fc_ka3 j hj))) hA
  have hZk : va_Z "HorsesOwnWays" "KIND_ABOVE" "[I" (.ref t) (fun q : Nat => s.heap.size ≤ q) s s.heap := va_Zref (hts _ (LT4 130 rfl)) (hTW _ kl_L_7.2.2) ht hA
  obtain ⟨adK, adV, hS, hE⟩ := vk_Sof (args := #[Value.ref b]) (s := s) (N := 2) (tm := tmS) (len := [8, 60]) (byt := [scSigns, scWords]) (A := fun q : Nat => s.heap.size ≤ q) (by decide) (fun i hi => hs _ (fc_s1 i hi)) (fun i hi => hs _ (fc_s2 i hi)) (fun i hi => hs _ (fc_s3 i hi)) (fun i hi => hs _ (fc_s4 i hi)) (fun i hi j hj => hs _ (fc_s5 i hi j hj)) (fun i j hi hj hij => by
    rcases (show (i = 0 ∧ j = 1) ∨ (i = 1 ∧ j = 0) by omega) with ⟨rfl, rfl⟩ | ⟨rfl, rfl⟩
    · exact Or.inr (hs _ fc_s6)
    · exact Or.inl (hs _ fc_s6)) hA
  have hCS : va_Z "java/lang/String" "COMPACT_STRINGS" "Z" (.int 1) (fun q : Nat => s.heap.size ≤ q) s s.heap := va_Zof (hts _ (LT2 154 rfl)) (hts _ (LT1 11 rfl)) (va_eqi (hs _ fc_cs)) hA
  have hFM := va_Zqof (A := fun q : Nat => s.heap.size ≤ q) (hts _ (LT2 162 rfl)) (hts _ (LT1 13 rfl)) (hs _ fc_fm) hA
  obtain ⟨t7, b7, hb7, hZ7⟩ : ∃ t7 b7 : Nat, (b7 = 0 ∨ b7 = 7) ∧ va_Z "jdk/internal/util/Preconditions" "SIOOBE_FORMATTER" "Ljava/util/function/BiFunction;" (if b7 = 0 then .null else .ref t7) (fun q : Nat => s.heap.size ≤ q) s s.heap := by
    rcases hFM with h | ⟨t7, h⟩
    · exact ⟨0, 0, Or.inl rfl, h⟩
    · exact ⟨t7, 7, Or.inr rfl, h⟩
  refine ⟨(s.heap, (fun a => match a with | 1 => b | 2 => t | 3 => adK 0 | 4 => adK 1 | 5 => adV 0 | 6 => adV 1 | 7 => t7 | _ => 0), (dC, dI), (fun k => match k with | 1 => aI | 2 => aZ | 3 => aC | 4 => aA | 5 => aH | 6 => aT | _ => aS), L, xs), rfl, rfl, rfl, ⟨hKc, ?_⟩, hX, hZk, hT, ⟨?_, ?_, ?_⟩, hCS, ⟨b7, hb7, ?_⟩, ?_, ?_, ?_, ?_, ?_, ?_⟩
  · intro k q hq
    match k, hq with
    | 0, hq => cases hq; exact ⟨ai1, ai2⟩
    | 1, hq => cases hq; exact ⟨az1, az2⟩
    | 2, hq => cases hq; exact ⟨ac1, ac2⟩
    | 3, hq => cases hq; exact ⟨aa1, aa2⟩
    | 4, hq => cases hq; exact ⟨ah1, ah2⟩
    | 5, hq => cases hq; exact ⟨at1, at2⟩
    | 6, hq => cases hq; exact ⟨as1, as2⟩
    | k + 7, hq => simp [g_tys] at hq
  · exact vk_R.of (hts _ (LT2 193 rfl)) (hE 0 (by omega))
  · exact vk_R.of (hts _ (LT2 144 rfl)) (hE 1 (by omega))
  · refine ⟨fun i hi => ?_, fun i j hi hj e => ?_⟩
    · rcases (show i = 0 ∨ i = 1 by omega) with rfl | rfl
      · exact hS.1 0 (by omega)
      · exact hS.1 1 (by omega)
    · refine hS.2 i j hi hj ?_
      rcases (show i = 0 ∨ i = 1 by omega) with rfl | rfl <;> rcases (show j = 0 ∨ j = 1 by omega) with rfl | rfl <;> exact e
  · rcases hb7 with rfl | rfl
    · exact hZ7
    · exact hZ7
  · intro w hw
    simp only [NWl, List.mem_cons, List.not_mem_nil, or_false] at hw
    rcases hw with rfl | rfl | rfl | rfl | rfl | rfl | rfl | rfl | rfl
    · exact va_Nw.of rfl (hts _ (LT1 33 rfl))
    · exact va_Nw.of rfl (hts _ (LT1 39 rfl))
    · exact va_Nw.of rfl (hts _ (LT1 76 rfl))
    · exact va_Nw.of rfl (hts _ (LT1 111 rfl))
    · exact va_Nw.of rfl (hts _ (LT1 147 rfl))
    · exact va_Nw.of rfl (hts _ (LT1 207 rfl))
    · exact va_Nw.of rfl (hts _ (LT2 61 rfl))
    · exact va_Nw.of rfl (hts _ (LT3 56 rfl))
    · exact va_Nw.of rfl (hts _ (LT3 148 rfl))
  · exact va_Nw.of rfl (hts _ (LT4 129 rfl))
  · exact va_AO.of (hts _ (LT1 28 rfl))
  · exact va_AO.of (hts _ (LT1 30 rfl))
  · exact va_AO.of (hts _ (LT1 142 rfl))
  · exact hts _ (LT1 26 rfl)
