/-! ===== the abstract machine: addresses are numbers (0 null, below 10 externals), one heap of ints and one of references ===== -/
abbrev Mem : Type := Nat → Nat → Int32
/-- how many addresses, how many slots, kinds, lengths, references -/
abbrev HS : Type := Nat × Nat × (Nat → Nat) × (Nat → Nat) × (Nat → Nat → Nat)
/-- a method: name, bytes, locals, what it returns -/
abbrev MK : Type := MethodName × ByteArray × Nat × Option FieldType
/-- the world: the first heap, the externals' addresses, the classes' numbers and slots, the array classes, the script's length and values -/
abbrev GW : Type := Heap × (Nat → Nat) × va_G × (Nat → ClassId) × Nat × (Nat → Int32)
def TW : List Cond := lw_tbl.filter goodWord
theorem TW_in {w : Cond} (h : w ∈ TW) : w ∈ lw_tbl := (List.mem_filter.mp h).1
theorem TW_good {w : Cond} (h : w ∈ TW) : (w.onTables && w.keeps) = true ∨ ∃ ty, w = .arrayClass ty := good_of_word (List.mem_filter.mp h).2
def g_adr (G : GW) (a : Nat) : Nat := if a < 10 then G.2.1 a else G.1.size + (a - 10)
def g_rf (G : GW) (a : Nat) : Value := if a = 0 then .null else .ref (g_adr G a)
def cv (G : GW) (v : Value) : Value := match v with
  | .ref a => g_rf G a
  | .int x => .int x
  | .long x => .long x
  | w => w
def cvp (G : GW) (q : Nat × Value) : Nat × Value := (q.1, cv G q.2)
theorem cv_cat (G : GW) (v : Value) : (cv G v).category = v.category := by
  cases v with
  | ref a =>
    show (g_rf G a).category = 1
    unfold g_rf
    split <;> rfl
  | _ => rfl
def c_ty (c k : Nat) : FieldType := match c with
  | 0 => tyX0 k
  | 1 => tyX1 k
  | 2 => tyX2 k
  | 3 => tyX3 k
  | 4 => tyX4 k
  | 5 => tyX5 k
  | 6 => tyX6 k
  | 7 => tyX7 k
  | _ => tyX8 k
def g_fv (G : GW) (c k : Nat) (x : Int32) (r : Nat) : Value := if (c_ty c k).isReference then g_rf G r else .int x
def k_ty (k : Nat) : FieldType := match k with
  | 1 => .int
  | 2 => .boolean
  | 3 => .char
  | 4 => .array .int
  | 5 => .object RX0
  | 6 => .object RX6
  | _ => .object RX4
def g_tys (G : GW) : List (ClassId × FieldType) := [(G.2.2.2.1 1, .int), (G.2.2.2.1 2, .boolean), (G.2.2.2.1 3, .char), (G.2.2.2.1 4, .array .int), (G.2.2.2.1 5, .object RX0), (G.2.2.2.1 6, .object RX6), (G.2.2.2.1 7, .object RX4)]
def g_cell (G : GW) (S : HS) (μ : Mem) (a : Nat) (H : Heap) : Prop :=
  if 10 ≤ S.2.2.1 a then ∃ r : vw_C, vwCl[S.2.2.1 a - 10]? = some r ∧ t_OB (g_adr G a) (G.2.2.1.1 (S.2.2.1 a - 10)) r.2.2 (G.2.2.1.2 (S.2.2.1 a - 10)) H (fun k => g_fv G (S.2.2.1 a - 10) k (μ a k) (S.2.2.2.2 a k))
  else if S.2.2.1 a ≤ 3 then H[g_adr G a]? = some (arrV (G.2.2.2.1 (S.2.2.1 a)) (S.2.2.2.1 a) (fun j => .int (μ a j)))
  else H[g_adr G a]? = some (arrV (G.2.2.2.1 (S.2.2.1 a)) (S.2.2.2.1 a) (fun j => g_rf G (S.2.2.2.2 a j)))
def HR (G : GW) (S : HS) (μ : Mem) (H : Heap) : Prop :=
  10 ≤ S.1 ∧ H.size + 10 = G.1.size + S.1 ∧ (∀ q : Nat, q < G.1.size → H[q]? = G.1[q]?) ∧ (∀ a : Nat, S.2.2.1 a ≠ 0 → 10 ≤ a ∧ a < S.1) ∧ ∀ a : Nat, S.2.2.1 a ≠ 0 → g_cell G S μ a H
def TK (G : GW) (U : State) : Prop := va_K G.2.2.1 vwCl (g_tys G) U
/-- places at or behind the first heap's end -/
def g_A (G : GW) : Nat → Prop := fun q => G.1.size ≤ q
def rI (r : Option FieldType) : Instr := match r with
  | none => .return_
  | some .long => .lreturn
  | some _ => .ireturn
def g_fit (r : Option FieldType) (v : Option Value) : Prop := match r, v with
  | none, none => True
  | some .long, some (.long _) => True
  | some .int, some (.int _) => True
  | some .boolean, some (.int x) => narrow .boolean (.int x) = .int x
  | some .char, some (.int x) => narrow .char (.int x) = .int x
  | some .byte, some (.int x) => narrow .byte (.int x) = .int x
  | _, _ => False
/-- what stands outside: the script, the static row of kinds, two texts, links among nest mates -/
def kaV (j : Nat) : Int32 := [(-1 : Int32), 0, 0, 1, 2, 0].getD j 0
def scSigns : List Int32 := [40, 41, 59, 43, 45, 42, 60, 61]
def scWords : List Int32 := [111, 117, 116, 32, 32, 104, 111, 109, 101, 32, 100, 105, 101, 115, 32, 111, 114, 32, 32, 32, 97, 110, 100, 32, 32, 110, 111, 116, 32, 32, 116, 111, 108, 100, 32, 109, 111, 114, 101, 32, 102, 114, 111, 109, 32, 116, 111, 32, 32, 32, 114, 101, 97, 100, 121, 102, 97, 114, 32, 32]
def NWl : List Cond := [.methodLinkNest RX7 35 yX2_init RX7, .methodLinkNest RX2 11 yX5_init RX7, .methodLinkNest RX7 42 yX3_init RX7, .methodLinkNest RX7 49 yX1_init RX7, .methodLinkNest RX7 79 yX0_init RX7, .methodLinkNest RX7 81 yX4_init RX7, .methodLinkNest RX6 33 yX7_isWithin RX7, .methodLinkNest RX2 78 yX7_isWithin RX7, .methodLinkNest RX3 51 yX7_isIn RX7]
def va_AOi (U : State) : Prop := (Cond.arrayOver (.array .int)).before #[] U = true
theorem va_AOi.moved {u U : State} (hvm : u.vm.Alike U.vm) (h : va_AOi u) : va_AOi U := by
  obtain ⟨comp, c, k, h1, h2, h3, h4, h5⟩ := arrayOverA_spec h
  obtain ⟨k', hk', he⟩ := hvm.2.2 _ _ h3
  have hi : (U.vm.classes.findIdx? fun (x : Class) => match x.kind with | .array component _ => component == comp | _ => false) = some c := by
    rw [hvm.findIdx?_eq _ (fun _ => rfl)]
    exact h2
  have hkind : k'.kind = .array comp (.array .int) := by rw [he]; exact h4
  have f1 : U.vm.findClass (FieldType.array .int).toString = some comp := by rw [hvm.findClass]; exact h1
  have f2 : U.vm.findClass ("[" ++ (FieldType.array .int).toString) = some c := by rw [hvm.findClass]; exact h5
  unfold va_AOi Cond.before Cond.holds
  simp only [Cond.value]
  rw [f1, Option.bind_some]
  refine (congrArg (fun o : Option Nat => (o.bind (fun c => (U.vm.classes[c]?).map fun (k : Class) => match k.kind with | .array _ ty => decide (ty = FieldType.array .int) && decide (U.vm.findClass ("[" ++ (FieldType.array .int).toString) = some c) | _ => false) == some true)) hi).trans ?_
  simp [hk', hkind, f2]
def EX (G : GW) (U : State) : Prop :=
  va_X (G.2.1 1) G.2.2.2.2.1 G.2.2.2.2.2 U G.1 ∧
  va_Z "HorsesOwnWays" "KIND_ABOVE" "[I" (.ref (G.2.1 2)) (g_A G) U G.1 ∧
  va_T .int (G.2.1 2) 6 (fun j => .int (kaV j)) (g_A G) U G.1 ∧
  (vk_R RX5 42 "();+-*<=" (G.2.1 3) U ∧ vk_R RX5 54 "out  home dies or   and  not  told more from to   readyfar  " (G.2.1 4) U ∧
    vk_S 2 [8, 60] [scSigns, scWords] (fun i => G.2.1 (3 + i)) (fun i => G.2.1 (5 + i)) (g_A G) U G.1) ∧
  va_Z "java/lang/String" "COMPACT_STRINGS" "Z" (.int 1) (g_A G) U G.1 ∧
  (∃ b : Nat, (b = 0 ∨ b = 7) ∧ va_Z "jdk/internal/util/Preconditions" "SIOOBE_FORMATTER" "Ljava/util/function/BiFunction;" (g_rf G b) (g_A G) U G.1) ∧
  (∀ w ∈ NWl, va_Nw w U) ∧ va_Nw (.fieldLinkNest RX0 39 RX7 "KIND_ABOVE" "[I" RX7) U ∧
  (va_AO RX0 U ∧ va_AO RX6 U ∧ va_AO RX4 U ∧ va_AOi U)
theorem EX.warm {G : GW} {s U : State} (hW : s.WarmedH U.vm) (h : EX G s) : EX G U := by
  obtain ⟨h1, h2, h3, ⟨h4, h5, h6⟩, h7, h8, h9, h10, h11, h12, h13, h14⟩ := h
  refine ⟨va_X.moved hW.alike h1, va_Z.moved hW.alike h2, va_T.moved hW.alike h3, ⟨vk_R.warm hW h4, vk_R.warm hW h5, vk_S.moved hW.alike h6⟩, va_Z.moved hW.alike h7, ?_, ?_, va_Nw.warmF hW h10, va_AO.moved hW.alike h11, va_AO.moved hW.alike h12, va_AO.moved hW.alike h13, va_AOi.moved hW.alike h14⟩
  · obtain ⟨b, hb, h8⟩ := h8
    exact ⟨b, hb, va_Z.moved hW.alike h8⟩
  intro w hw
  have h := h9 w hw
  simp only [NWl, List.mem_cons, List.not_mem_nil, or_false] at hw
  rcases hw with rfl | rfl | rfl | rfl | rfl | rfl | rfl | rfl | rfl <;> exact va_Nw.warmM hW h
def CX (G : GW) (M : MK) (d : Nat) (p : Program) (R : Room) (s : State) (m : MethodId) (args : Array Value) (meth : Method) (c : Code) : Prop :=
  p.tables.exec = Jvm.exec ∧ c.code = M.2.1 ∧ c.maxLocals = M.2.2.1 ∧ s.vm.findClass M.1.cls = some m.cls ∧ (∀ w ∈ TW, w.before args s = true) ∧ meth.sig.returnType = M.2.2.2 ∧ meth.locks = false ∧ (M.1.name = "<init>" → meth.name = "<init>") ∧ (d ≤ R.frames ∧ 64 * d ≤ R.locals) ∧ TK G s ∧ EX G s
/-- from this point on, in any run, the method ends, and what it answers and leaves is in K -/
def EvW (G : GW) (M : MK) (d N Z pc : Nat) (lv : List (Nat × Value)) (st : List Value) (S : HS) (μ : Mem) (K : Option Value → HS → Mem → Prop) : Prop :=
  ∀ (p : Program) (l : Launch) (e : Env) (R : Room) (s : State) (m : MethodId) (args : Array Value) (below : List Frame) (meth : Method) (c : Code) (H : Heap) (locs : List Loc) (n0 z0 : Nat) (lsA : Array Slot) (Q : State → Prop),
    CX G M d p R s m args meth c → HR G S μ H → n0 ≤ S.1 → z0 ≤ S.2.1 → N ≤ n0 + R.cells → Z ≤ z0 + R.slots → (∀ q ∈ locs, G.1.size ≤ q.base) → lv_has lsA M.2.2.1 (lv.map (cvp G)) →
    (∀ (v : Option Value) (S' : HS) (μ' : Mem) (H' : Heap) (locs' : List Loc) (pc' : Nat) (lsA' : Array Slot), decode M.2.1 pc' = .ok (rI M.2.2.2, 1) → g_fit M.2.2.2 v → K v S' μ' → HR G S' μ' H' → S'.1 = N → S'.2.1 = Z → (∀ q ∈ locs', G.1.size ≤ q.base) →
      W p l e R s m args below meth c H' locs' (N - n0) (Z - z0) Q (F0 m pc' lsA' v.toList)) →
    W p l e R s m args below meth c H locs (S.1 - n0) (S.2.1 - z0) Q (F0 m pc lsA (st.map (cv G)))
theorem EvW.imp {G : GW} {M : MK} {d N Z pc : Nat} {lv : List (Nat × Value)} {st : List Value} {S : HS} {μ : Mem} {K K' : Option Value → HS → Mem → Prop} (h : EvW G M d N Z pc lv st S μ K) (hK : ∀ v S' μ', K v S' μ' → K' v S' μ') : EvW G M d N Z pc lv st S μ K' := by
  intro p l e R s m args below meth c H locs n0 z0 lsA Q C hH hn0 hz0 hN hZ hlo hl fin
  exact h p l e R s m args below meth c H locs n0 z0 lsA Q C hH hn0 hz0 hN hZ hlo hl (fun v S' μ' H' locs' pc' lsA' a1 a2 a3 => fin v S' μ' H' locs' pc' lsA' a1 a2 (hK _ _ _ a3))
/-- more room does no harm -/
theorem EvW.deeper {G : GW} {M : MK} {d d' N Z pc : Nat} {lv : List (Nat × Value)} {st : List Value} {S : HS} {μ : Mem} {K : Option Value → HS → Mem → Prop} (h : EvW G M d N Z pc lv st S μ K) (hd : d ≤ d') : EvW G M d' N Z pc lv st S μ K := by
  intro p l e R s m args below meth c H locs n0 z0 lsA Q C hH hn0 hz0 hN hZ hlo hl fin
  obtain ⟨c1, c2, c3, c4, c5, c6, c7, c8, ⟨c9, c10⟩, c11⟩ := C
  exact h p l e R s m args below meth c H locs n0 z0 lsA Q ⟨c1, c2, c3, c4, c5, c6, c7, c8, ⟨by omega, by omega⟩, c11⟩ hH hn0 hz0 hN hZ hlo hl fin
/-- fewer locals are known -/
theorem EvW.less {G : GW} {M : MK} {d N Z pc : Nat} {lv lv' : List (Nat × Value)} {st : List Value} {S : HS} {μ : Mem} {K : Option Value → HS → Mem → Prop} (ks : List Nat) (hl' : lv_pick lv ks = lv') (h : EvW G M d N Z pc lv' st S μ K) : EvW G M d N Z pc lv st S μ K := by
  intro p l e R s m args below meth c H locs n0 z0 lsA Q C hH hn0 hz0 hN hZ hlo hl fin
  refine h p l e R s m args below meth c H locs n0 z0 lsA Q C hH hn0 hz0 hN hZ hlo (lv_sub hl ks ?_) fin
  subst hl'
  unfold lv_pick
  rw [List.map_filterMap]
  congr 1
  funext k
  rw [List.getElem?_map]
