/-! ===== what is read: steps that are such, few enough, on a stack that holds them ===== -/
def okL : List Int32 → Nat → Prop
  | [], _ => True
  | c :: l, h => okE (codeK c) h ∧ okL l (hE (codeK c) h)
def htL : List Int32 → Nat → Nat
  | [], h => h
  | c :: l, h => htL l (hE (codeK c) h)
theorem okL_app : ∀ (a b : List Int32) (h : Nat), okL a h → okL b (htL a h) → okL (a ++ b) h := by
  intro a
  induction a with
  | nil => intro b h _ h2; exact h2
  | cons c a ih => intro b h h1 h2; exact ⟨h1.1, ih b _ h1.2 h2⟩
theorem htL_app : ∀ (a b : List Int32) (h : Nat), htL (a ++ b) h = htL b (htL a h) := by
  intro a
  induction a with
  | nil => intro b h; rfl
  | cons c a ih => intro b h; exact ih b _
theorem digB_d {x : Int32} (h : digB x = true) : ∃ d, d ≤ 9 ∧ x = nI (48 + d) := by
  have h : inB x 48 57 = true := h
  obtain ⟨w, h1, h2, rfl⟩ := inB_mid (lo := 48) (hi := 57) (by omega) (by omega) h
  exact ⟨w - 48, by omega, by rw [show 48 + (w - 48) = w by omega]⟩
theorem nmT_nI (f : Nat → Int32) : ∀ j p v, ∃ x, nmT f j p (nI v) = nI x ∧ x + 1 ≤ (v + 1) * 10 ^ (rnT digB f j p - p) := by
  intro j
  induction j with
  | zero =>
    intro p v
    refine ⟨v, rfl, ?_⟩
    show v + 1 ≤ (v + 1) * 10 ^ (p - p)
    rw [Nat.sub_self, Nat.pow_zero, Nat.mul_one]
    exact Nat.le_refl _
  | succ j ih =>
    intro p v
    have e1 : nmT f (j + 1) p (nI v) = if digB (f p) = true then nmT f j (p + 1) (10 * nI v + f p - 48) else nI v := rfl
    have e2 : rnT digB f (j + 1) p = if digB (f p) = true then rnT digB f j (p + 1) else p := rfl
    rw [e1, e2]
    by_cases c : digB (f p) = true
    · rw [if_pos c, if_pos c]
      obtain ⟨d, hd, e⟩ := digB_d c
      have e3 : 10 * nI v + f p - 48 = nI (10 * v + d) := by
        rw [e, show (10 : Int32) = nI 10 from rfl, pk_mul, nI_add, show (48 : Int32) = nI 48 from rfl, pk_sub (by omega)]
        congr 1
        omega
      rw [e3]
      obtain ⟨x, h1, h2⟩ := ih (p + 1) (10 * v + d)
      refine ⟨x, h1, Nat.le_trans h2 ?_⟩
      have hr := (rnT_le digB f j (p + 1)).1
      have e4 : rnT digB f j (p + 1) - p = (rnT digB f j (p + 1) - (p + 1)) + 1 := by omega
      rw [e4, Nat.pow_succ]
      calc (10 * v + d + 1) * 10 ^ (rnT digB f j (p + 1) - (p + 1)) ≤ ((v + 1) * 10) * 10 ^ (rnT digB f j (p + 1) - (p + 1)) := Nat.mul_le_mul_right _ (by omega)
        _ = (v + 1) * (10 ^ (rnT digB f j (p + 1) - (p + 1)) * 10) := by rw [Nat.mul_assoc, Nat.mul_comm 10]
    · rw [if_neg c, if_neg c, Nat.sub_self, Nat.pow_zero, Nat.mul_one]
      exact ⟨v, rfl, Nat.le_refl _⟩
theorem nv_range {f : Nat → Int32} {n i : Nat} (h : tkT f n i = 20) : ∃ x, x ≤ 9999 ∧ nvT f n i = nI x := by
  have h1 := tk20 (f := f) (n := n) (s := stT f n i) h
  have h2 : (if rnT digB f (n - stT f n i) (stT f n i) - stT f n i ≤ 4 then (20 : Int32) else 22) = 20 := by
    have e : tkK f n (stT f n i) = if rnT digB f (n - stT f n i) (stT f n i) - stT f n i ≤ 4 then 20 else 22 := by simp [tkK, h1.1, h1.2.1, h1.2.2]
    rw [← e]
    exact h
  have h3 : rnT digB f (n - stT f n i) (stT f n i) - stT f n i ≤ 4 := by
    by_cases c : rnT digB f (n - stT f n i) (stT f n i) - stT f n i ≤ 4
    · exact c
    · rw [if_neg c] at h2
      exact absurd h2 (by decide)
  obtain ⟨x, h4, h5⟩ := nmT_nI f (n - stT f n i) (stT f n i) 0
  refine ⟨x, ?_, h4⟩
  have h6 : (10 : Nat) ^ (rnT digB f (n - stT f n i) (stT f n i) - stT f n i) ≤ 10 ^ 4 := Nat.pow_le_pow_right (by omega) h3
  omega
theorem validS_num {x : Nat} (hx : x ≤ 9999) : validS (100 + nI x) := by
  rw [show (100 : Int32) = nI 100 from rfl, nI_add]
  exact Or.inl ⟨nI_le (a := 100) (by omega) (by omega), nI_le (b := 10099) (by omega) (by omega)⟩
theorem validS_name {x : Int32} (h : inB x 6 11 = true) : validS x := Or.inr (Or.inl (inB_t.mp h))
theorem ok_push {c : Int32} {h : Nat} (hc : codeK c < 6) (hh : h < 40) : okE (codeK c) h ∧ hE (codeK c) h = h + 1 := by
  unfold okE hE
  rw [if_pos hc, if_pos hc]
  exact ⟨hh, rfl⟩
theorem ok_bin {c : Int32} {h : Nat} (hc : c = 3 ∨ c = 4 ∨ c = 15 ∨ c = 16 ∨ c = 17 ∨ c = 18 ∨ c = 19) (hh : 2 ≤ h) : okE (codeK c) h ∧ hE (codeK c) h = h - 1 := by
  have key : ¬ codeK c < 6 ∧ ¬ codeK c = 12 ∧ ¬ codeK c = 18 := by
    rcases hc with rfl | rfl | rfl | rfl | rfl | rfl | rfl <;> decide
  unfold okE hE
  rw [if_neg key.1, if_neg key.1, if_neg (fun q => q.elim key.2.1 key.2.2), if_neg (fun q => q.elim key.2.1 key.2.2)]
  exact ⟨hh, rfl⟩
theorem ok_un {c : Int32} {h : Nat} (hc : c = 5 ∨ c = 23) (hh : 1 ≤ h) : okE (codeK c) h ∧ hE (codeK c) h = h := by
  have key : ¬ codeK c < 6 ∧ (codeK c = 12 ∨ codeK c = 18) := by
    rcases hc with rfl | rfl <;> decide
  unfold okE hE
  rw [if_neg key.1, if_neg key.1, if_pos key.2, if_pos key.2]
  exact ⟨hh, rfl⟩
/-- how much higher the stack gets -/
def ndT (L o : Nat) : Nat := 1 + 5 * (5 - o) + (if L ≤ 3 then L else L - 1)
def ndP (L : Nat) : Nat := if L = 11 then 0 else if L = 12 then 1 else if L = 15 then 4 else 5
def rdI (f : Nat → Int32) (n L o : Nat) (s : Bool × Nat) (r : (Bool × Nat) × List Int32) : Prop := (∀ x, x ∈ r.2 → validS x) ∧ (s.2 ≤ plT f n s.2 → r.1.2 ≤ plT f n r.1.2 ∧ s.2 + r.2.length ≤ r.1.2) ∧ (L ≤ 6 → ∀ h, h + ndT L o ≤ 40 → okL r.2 h ∧ htL r.2 h = h + 1) ∧ (7 ≤ L → ∀ h, 1 ≤ h → h + ndT (ndP L) o ≤ 40 → okL r.2 h ∧ htL r.2 h = h)
theorem take_le {f : Nat → Int32} {n : Nat} {s : Bool × Nat} (h22 : tkS (tkT f n) s ≠ 22) (h21 : tkS (tkT f n) s ≠ 21) (h : s.2 ≤ plT f n s.2) : s.2 + 1 ≤ plT f n (s.2 + 1) := by
  have hs := tkS_alive h22
  have hk : tkT f n s.2 ≠ 21 := by
    have : tkS (tkT f n) s = tkT f n s.2 := if_pos hs
    rw [← this]
    exact h21
  have := (tkT_lt hk).2
  omega
theorem rd_inv (f : Nat → Int32) (n : Nat) : ∀ (F L o : Nat) (s : Bool × Nat) (r : (Bool × Nat) × List Int32), o ≤ 5 → rd (tkT f n) (nvT f n) F L o s = some r → r.1.1 = true → rdI f n L o s r := by
  intro F
  induction F with
  | zero =>
    intro L o s r _ h
    rw [rd] at h
    cases h
  | succ F ih =>
    intro L o s r ho
    have seq : ∀ A B, A ≤ 6 → 7 ≤ B → L ≤ 6 → ndT A o + 1 ≤ ndT L o → ndP B = A → rdSeq (rd (tkT f n) (nvT f n) F) A B o s = some r → r.1.1 = true → rdI f n L o s r := by
      intro A B hA hB hL hnd hnp h ha
      obtain ⟨r1, r2, h1, h2, rfl⟩ := rdSeq_some h
      obtain ⟨g1, g2⟩ := rd_on _ _ _ _ _ h2 ha
      obtain ⟨a1, a2, a3, -⟩ := ih _ _ _ _ ho h1 g1
      obtain ⟨b1, b2, -, b4⟩ := ih _ _ _ _ ho h2 ha
      refine ⟨fun x hx => (List.mem_append.mp hx).elim (a1 x) (b1 x), fun hs => ?_, fun _ h hh => ?_, fun q => by omega⟩
      · obtain ⟨p1, p2⟩ := a2 hs
        obtain ⟨q1, q2⟩ := b2 p1
        refine ⟨q1, ?_⟩
        show s.2 + (r1.2 ++ r2.2).length ≤ r2.1.2
        rw [List.length_append]
        omega
      · obtain ⟨p1, p2⟩ := a3 hA h (by omega)
        obtain ⟨q1, q2⟩ := b4 hB (h + 1) (by omega) (by rw [hnp]; omega)
        refine ⟨okL_app _ _ _ p1 (by rw [p2]; exact q1), ?_⟩
        show htL (r1.2 ++ r2.2) h = h + 1
        rw [htL_app, p2, q2]
    have loop : ∀ ops A B, (∀ x, ops x = true → x = 3 ∨ x = 4 ∨ x = 15 ∨ x = 16 ∨ x = 17) → A ≤ 6 → 7 ≤ B → 7 ≤ L → ndP L = A → ndP B = A → rdLoop (tkT f n) ops (rd (tkT f n) (nvT f n) F) A B o s = some r → r.1.1 = true → rdI f n L o s r := by
      intro ops A B hops hA hB hL hnl hnp h ha
      rcases rdLoop_some h with ⟨-, rfl⟩ | ⟨c, r1, r2, h1, h2, rfl⟩
      · exact ⟨fun x hx => absurd hx List.not_mem_nil, fun hs => ⟨hs, Nat.le_refl _⟩, fun q => by omega, fun _ h _ _ => ⟨True.intro, rfl⟩⟩
      · have hop := hops _ c
        have h22 : tkS (tkT f n) s ≠ 22 := by rcases hop with q | q | q | q | q <;> (rw [q]; decide)
        have h21 : tkS (tkT f n) s ≠ 21 := by rcases hop with q | q | q | q | q <;> (rw [q]; decide)
        obtain ⟨g1, g2⟩ := rd_on _ _ _ _ _ h2 ha
        obtain ⟨a1, a2, a3, -⟩ := ih _ _ _ _ ho h1 g1
        obtain ⟨b1, b2, -, b4⟩ := ih _ _ _ _ ho h2 ha
        refine ⟨fun x hx => ?_, fun hs => ?_, fun q => by omega, fun _ h hh1 hh => ?_⟩
        · rcases List.mem_append.mp hx with q | q
          · exact a1 x q
          · rcases List.mem_cons.mp q with q | q
            · subst q
              unfold validS
              rcases hop with q | q | q | q | q <;> simp [q]
            · exact b1 x q
        · obtain ⟨p1, p2⟩ := a2 (take_le h22 h21 hs)
          obtain ⟨q1, q2⟩ := b2 p1
          refine ⟨q1, ?_⟩
          show s.2 + (r1.2 ++ (tkS (tkT f n) s :: r2.2)).length ≤ r2.1.2
          have p2 : s.2 + 1 + r1.2.length ≤ r1.1.2 := p2
          rw [List.length_append, List.length_cons]
          omega
        · obtain ⟨p1, p2⟩ := a3 hA h (by rw [← hnl]; exact hh)
          obtain ⟨q1, q2⟩ := b4 hB h hh1 (by rw [hnp, ← hnl]; exact hh)
          have hb := ok_bin (c := tkS (tkT f n) s) (h := h + 1) (by rcases hop with q | q | q | q | q <;> simp [q]) (by omega)
          refine ⟨okL_app _ _ _ p1 ?_, ?_⟩
          · rw [p2]
            exact ⟨hb.1, by rw [hb.2]; exact q1⟩
          · show htL (r1.2 ++ (tkS (tkT f n) s :: r2.2)) h = h
            rw [htL_app, p2]
            show htL r2.2 (hE (codeK (tkS (tkT f n) s)) (h + 1)) = h
            rw [hb.2]
            exact q2
    refine rd_lvl (P := fun x => x = some r → r.1.1 = true → rdI f n L o s r) ?_ ?_ ?_ ?_ ?_ ?_ ?_ ?_ ?_ ?_ ?_
    · intro hL h ha
      subst hL
      rcases rdOne_some h with ⟨c, rfl⟩ | ⟨-, c, rfl⟩ | ⟨rfl, -⟩ | ⟨c, co, r1, h1, rfl⟩ | ⟨c, co, r1, h1, rfl⟩
      · have hs := tkS_alive (tk := tkT f n) (s := s) (by rw [c]; decide)
        have ct : tkT f n s.2 = 20 := by
          have : tkS (tkT f n) s = tkT f n s.2 := if_pos hs
          rw [← this]
          exact c
        obtain ⟨x, hx, ex⟩ := nv_range ct
        have hv := validS_num hx
        have hk : codeK (100 + nI x) < 6 := by
          have q : (100 : Int32) ≤ 100 + nI x ∧ 100 + nI x ≤ 10099 := by
            rw [show (100 : Int32) = nI 100 from rfl, nI_add]
            exact ⟨nI_le (a := 100) (by omega) (by omega), nI_le (b := 10099) (by omega) (by omega)⟩
          exact Int32.lt_trans (codeK_neg q) (by decide)
        refine ⟨fun y hy => ?_, fun hs => ⟨take_le (by rw [c]; decide) (by rw [c]; decide) hs, Nat.le_refl _⟩, fun _ h hh => ?_, fun q => by omega⟩
        · rw [List.mem_singleton.mp hy, ex]
          exact hv
        · have := ok_push (h := h) hk (by have : ndT 0 o = 1 + 5 * (5 - o) := rfl; omega)
          rw [← ex] at this
          exact ⟨⟨this.1, True.intro⟩, this.2⟩
      · have hk : codeK (tkS (tkT f n) s) < 6 := by
          obtain ⟨k, hk, -, e⟩ := codeK_name c
          rw [e]
          exact nI_lt (b := 6) hk (by omega)
        have h22 : tkS (tkT f n) s ≠ 22 := fun q => by rw [q] at c; exact absurd c (by decide)
        have h21 : tkS (tkT f n) s ≠ 21 := fun q => by rw [q] at c; exact absurd c (by decide)
        refine ⟨fun y hy => ?_, fun hs => ⟨take_le h22 h21 hs, Nat.le_refl _⟩, fun _ h hh => ?_, fun q => by omega⟩
        · rw [List.mem_singleton.mp hy]
          exact validS_name c
        · have := ok_push (h := h) hk (by have : ndT 0 o = 1 + 5 * (5 - o) := rfl; omega)
          exact ⟨⟨this.1, True.intro⟩, this.2⟩
      · exact absurd ha (by simp)
      · obtain ⟨a1, a2, a3, -⟩ := ih _ _ _ _ (by omega) h1 ha
        refine ⟨fun y hy => ?_, fun hs => ?_, fun _ h hh => ?_, fun q => by omega⟩
        · rcases List.mem_append.mp hy with q | q
          · exact a1 y q
          · rw [List.mem_singleton.mp q]
            unfold validS
            simp
        · obtain ⟨p1, p2⟩ := a2 (take_le (by rw [c]; decide) (by rw [c]; decide) hs)
          refine ⟨p1, ?_⟩
          show s.2 + (r1.2 ++ [23]).length ≤ r1.1.2
          have p2 : s.2 + 1 + r1.2.length ≤ r1.1.2 := p2
          simp only [List.length_append, List.length_cons, List.length_nil]
          omega
        · obtain ⟨p1, p2⟩ := a3 (by omega) h (by have : ndT 0 o = 1 + 5 * (5 - o) := rfl; have : ndT 0 (o + 1) = 1 + 5 * (5 - (o + 1)) := rfl; omega)
          have hu := ok_un (c := 23) (h := h + 1) (Or.inr rfl) (by omega)
          refine ⟨okL_app _ _ _ p1 (by rw [p2]; exact ⟨hu.1, True.intro⟩), ?_⟩
          show htL (r1.2 ++ [23]) h = h + 1
          rw [htL_app, p2]
          exact hu.2
      · obtain ⟨q1, -, q3⟩ := exS_alive (by decide) ha
        obtain ⟨a1, a2, a3, -⟩ := ih _ _ _ _ (by omega) h1 q1
        have ex : tkS (tkT f n) r1.1 = 13 := (exS_alive (by decide) ha).2.1
        refine ⟨a1, fun hs => ?_, fun _ h hh => ?_, fun q => by omega⟩
        · obtain ⟨p1, p2⟩ := a2 (take_le (by rw [c]; decide) (by rw [c]; decide) hs)
          have p3 := take_le (by rw [ex]; decide) (by rw [ex]; decide) p1
          have p2 : s.2 + 1 + r1.2.length ≤ r1.1.2 := p2
          show (exS (tkT f n) r1.1 13).2 ≤ plT f n (exS (tkT f n) r1.1 13).2 ∧ s.2 + r1.2.length ≤ (exS (tkT f n) r1.1 13).2
          rw [q3]
          exact ⟨p3, by show s.2 + r1.2.length ≤ r1.1.2 + 1; omega⟩
        · exact a3 (by omega) h (by have : ndT 0 o = 1 + 5 * (5 - o) := rfl; have : ndT 6 (o + 1) = 1 + 5 * (5 - (o + 1)) + 5 := rfl; omega)
    · intro hL; subst hL; exact seq 0 11 (by omega) (by omega) (by omega) (Nat.le_refl _) rfl
    · intro hL; subst hL; exact seq 1 12 (by omega) (by omega) (by omega) (Nat.le_refl _) rfl
    · intro hL h ha
      subst hL
      obtain ⟨r1, h1, ⟨c, q, h2, rfl⟩ | ⟨-, rfl⟩⟩ := rdComp_some h
      · have h22 : tkS (tkT f n) r1.1 ≠ 22 := by rcases c with c | c <;> (rw [c]; decide)
        have h21 : tkS (tkT f n) r1.1 ≠ 21 := by rcases c with c | c <;> (rw [c]; decide)
        obtain ⟨g1, g2⟩ := rd_on _ _ _ _ _ h2 ha
        obtain ⟨a1, a2, a3, -⟩ := ih _ _ _ _ ho h1 g1
        obtain ⟨b1, b2, b3, -⟩ := ih _ _ _ _ ho h2 ha
        refine ⟨fun x hx => ?_, fun hs => ?_, fun _ h hh => ?_, fun q => by omega⟩
        · rcases List.mem_append.mp hx with q1 | q1
          · exact a1 x q1
          · rcases List.mem_append.mp q1 with q2 | q2
            · exact b1 x q2
            · rw [List.mem_singleton.mp q2]
              unfold validS
              rcases c with c | c <;> simp [c]
        · obtain ⟨p1, p2⟩ := a2 hs
          obtain ⟨q1, q2⟩ := b2 (take_le h22 h21 p1)
          refine ⟨q1, ?_⟩
          show s.2 + (r1.2 ++ (q.2 ++ [tkS (tkT f n) r1.1])).length ≤ q.1.2
          have q2 : r1.1.2 + 1 + q.2.length ≤ q.1.2 := q2
          simp only [List.length_append, List.length_cons, List.length_nil]
          omega
        · have n3 : ndT 3 o = ndT 2 o + 1 := rfl
          obtain ⟨p1, p2⟩ := a3 (by omega) h (by omega)
          obtain ⟨q1, q2⟩ := b3 (by omega) (h + 1) (by omega)
          have hb := ok_bin (c := tkS (tkT f n) r1.1) (h := h + 1 + 1) (by rcases c with c | c <;> simp [c]) (by omega)
          refine ⟨okL_app _ _ _ p1 ?_, ?_⟩
          · rw [p2]
            exact okL_app _ _ _ q1 (by rw [q2]; exact ⟨hb.1, True.intro⟩)
          · show htL (r1.2 ++ (q.2 ++ [tkS (tkT f n) r1.1])) h = h + 1
            rw [htL_app, p2, htL_app, q2]
            exact hb.2
      · obtain ⟨a1, a2, a3, -⟩ := ih _ _ _ _ ho h1 ha
        have n3 : ndT 3 o = ndT 2 o + 1 := rfl
        exact ⟨a1, a2, fun _ h hh => a3 (by omega) h (by omega), fun q => by omega⟩
    · intro hL h ha
      subst hL
      rcases rdNot_some h with ⟨c, co, r1, h1, rfl⟩ | ⟨-, -, rfl⟩ | ⟨-, h1⟩
      · obtain ⟨a1, a2, a3, -⟩ := ih _ _ _ _ (by omega) h1 ha
        refine ⟨fun y hy => ?_, fun hs => ?_, fun _ h hh => ?_, fun q => by omega⟩
        · rcases List.mem_append.mp hy with q | q
          · exact a1 y q
          · rw [List.mem_singleton.mp q]
            unfold validS
            simp
        · obtain ⟨p1, p2⟩ := a2 (take_le (by rw [c]; decide) (by rw [c]; decide) hs)
          refine ⟨p1, ?_⟩
          show s.2 + (r1.2 ++ [5]).length ≤ r1.1.2
          have p2 : s.2 + 1 + r1.2.length ≤ r1.1.2 := p2
          simp only [List.length_append, List.length_cons, List.length_nil]
          omega
        · obtain ⟨p1, p2⟩ := a3 (by omega) h (by have : ndT 4 o = 1 + 5 * (5 - o) + 3 := rfl; have : ndT 4 (o + 1) = 1 + 5 * (5 - (o + 1)) + 3 := rfl; omega)
          have hu := ok_un (c := 5) (h := h + 1) (Or.inl rfl) (by omega)
          refine ⟨okL_app _ _ _ p1 (by rw [p2]; exact ⟨hu.1, True.intro⟩), ?_⟩
          show htL (r1.2 ++ [5]) h = h + 1
          rw [htL_app, p2]
          exact hu.2
      · exact absurd ha (by simp)
      · obtain ⟨a1, a2, a3, -⟩ := ih _ _ _ _ ho h1 ha
        have n3 : ndT 4 o = ndT 3 o := rfl
        exact ⟨a1, a2, fun _ h hh => a3 (by omega) h (by omega), fun q => by omega⟩
    · intro hL; subst hL; exact seq 4 15 (by omega) (by omega) (by omega) (Nat.le_refl _) rfl
    · intro hL; subst hL; exact seq 5 16 (by omega) (by omega) (by omega) (Nat.le_refl _) rfl
    · intro hL; subst hL; exact loop op17 0 11 (fun x hx => by simp only [op17, decide_eq_true_eq] at hx; simp [hx]) (by omega) (by omega) (by omega) rfl rfl
    · intro hL; subst hL; exact loop op15 1 12 (fun x hx => by simp only [op15, Bool.or_eq_true, decide_eq_true_eq] at hx; rcases hx with hx | hx <;> simp [hx]) (by omega) (by omega) (by omega) rfl rfl
    · intro hL; subst hL; exact loop op4 4 15 (fun x hx => by simp only [op4, decide_eq_true_eq] at hx; simp [hx]) (by omega) (by omega) (by omega) rfl rfl
    · intro hL
      exact loop op3 5 16 (fun x hx => by simp only [op3, decide_eq_true_eq] at hx; simp [hx]) (by omega) (by omega) hL.1 (by unfold ndP; rw [if_neg (by omega), if_neg (by omega), if_neg (by omega)]) rfl
