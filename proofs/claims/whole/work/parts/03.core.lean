/-! ===== PURE WORLDS: a world is the number of the next cell, and a cell at each number; numbers below 100 are cells that stood before, from 100 on those that the law made ===== -/
abbrev Ev_K : Type := (Nat × Nat × ((Nat → Int32) ⊕ (Nat → Int64) ⊕ (Nat → Option Nat))) ⊕ (Nat × List Value)
abbrev Ev_W : Type := Nat × (Nat → Option Ev_K)
/-- launch; numbers of classes and slots; array classes; cells that stood before; the heap at the law's start -/
abbrev Ev_G : Type := Launch × va_G × (Nat → ClassId) × (Nat → Nat) × Heap
def ev_rho (G : Ev_G) (r : Nat) : Nat := if r < 100 then G.2.2.2.1 r else G.2.2.2.2.size + (r - 100)
def ev_mv (G : Ev_G) : Value → Value
  | .ref r => .ref (ev_rho G r)
  | v => v
def ev_cnv (G : Ev_G) : Ev_K → va_E
  | .inl (k, n, .inl f) => .inl (G.2.2.1 k, n, .inl f)
  | .inl (k, n, .inr (.inl f)) => .inl (G.2.2.1 k, n, .inr (.inl f))
  | .inl (k, n, .inr (.inr f)) => .inl (G.2.2.1 k, n, .inr (.inr (.inr (.inr (fun j => (f j).map (ev_rho G))))))
  | .inr (ci, fs) => .inr (ci, fs.map (ev_mv G))
theorem ev_mv_cat (G : Ev_G) (v : Value) : (ev_mv G v).category = v.category := by cases v <;> rfl
theorem ev_mv_rf (G : Ev_G) (o : Option Nat) : ev_mv G (va_rf o) = va_rf (o.map (ev_rho G)) := by cases o <;> rfl
/-- what the heap holds of a world -/
def ev_H (cl : List vw_C) (G : Ev_G) (w : Ev_W) (H : Heap) : Prop :=
  (∀ q : Nat, q < G.2.2.2.2.size → H[q]? = G.2.2.2.2[q]?) ∧ H.size + 100 = G.2.2.2.2.size + w.1 ∧ G.2.2.2.2.size ≤ H.size ∧ ∀ (r : Nat) (c : Ev_K), w.2 r = some c → va_at G.2.1 cl (ev_rho G r, ev_cnv G c) H
def ev_set (w : Ev_W) (r : Nat) (c : Ev_K) : Ev_W := (w.1, fun q => if q = r then some c else w.2 q)
def ev_new (w : Ev_W) (c : Ev_K) : Ev_W := (w.1 + 1, fun q => if q = w.1 then some c else w.2 q)
theorem ev_set_self (w : Ev_W) (r : Nat) (c : Ev_K) : (ev_set w r c).2 r = some c := by simp [ev_set]
theorem ev_set_ne (w : Ev_W) {r q : Nat} (c : Ev_K) (h : q ≠ r) : (ev_set w r c).2 q = w.2 q := by simp [ev_set, h]
theorem ev_new_self (w : Ev_W) (c : Ev_K) : (ev_new w c).2 w.1 = some c := by simp [ev_new]
theorem ev_new_ne (w : Ev_W) {q : Nat} (c : Ev_K) (h : q ≠ w.1) : (ev_new w c).2 q = w.2 q := by simp [ev_new, h]
/-- cells that stood before: 17 constants, apart from each other, and an array -/
def ev_inj (G : Ev_G) : Prop := (∀ r : Nat, r < 100 → G.2.2.2.1 r < G.2.2.2.2.size) ∧ ∀ r q : Nat, r < 17 → q < 17 → G.2.2.2.1 r = G.2.2.2.1 q → r = q
theorem ev_rho_inj {G : Ev_G} (h : ev_inj G) {r q : Nat} (hr0 : r < 17 ∨ 100 ≤ r) (hq0 : q < 17 ∨ 100 ≤ q) (e : ev_rho G r = ev_rho G q) : r = q := by
  unfold ev_rho at e
  by_cases hr : r < 100 <;> by_cases hq : q < 100
  · rw [if_pos hr, if_pos hq] at e; exact h.2 r q (by omega) (by omega) e
  · rw [if_pos hr, if_neg hq] at e; have := h.1 r hr; omega
  · rw [if_neg hr, if_pos hq] at e; have := h.1 q hq; omega
  · rw [if_neg hr, if_neg hq] at e; omega
theorem ev_rho_hi {G : Ev_G} (h : ev_inj G) {r q : Nat} (hr0 : 100 ≤ r) (e : ev_rho G q = ev_rho G r) : q = r := by
  unfold ev_rho at e
  rw [if_neg (show ¬ r < 100 by omega)] at e
  by_cases hq : q < 100
  · rw [if_pos hq] at e; have := h.1 q hq; omega
  · rw [if_neg hq] at e; omega
def ev_ok (o : Option Nat) : Prop := ∀ r : Nat, o = some r → r < 17 ∨ 100 ≤ r
theorem ev_H.fresh {cl : List vw_C} {G : Ev_G} {w : Ev_W} {H : Heap} (h : ev_H cl G w H) (hi : 100 ≤ w.1) : w.2 w.1 = none := by
  cases hc : w.2 w.1 with
  | none => rfl
  | some c =>
    have h1 := (h.2.2.2 _ _ hc).lt
    have h2 := h.2.1
    simp only [ev_rho] at h1
    rw [if_neg (by omega)] at h1
    omega
theorem ev_H.lo {cl : List vw_C} {G : Ev_G} {w : Ev_W} {H : Heap} (h : ev_H cl G w H) : 100 ≤ w.1 := by have := h.2.1; have := h.2.2.1; omega
/-- a cell is written -/
theorem ev_H.set {cl : List vw_C} {G : Ev_G} {w : Ev_W} {H H1 : Heap} {r : Nat} {c : Ev_K} (hi : ev_inj G) (h : ev_H cl G w H) (hr : 100 ≤ r) (he : va_at G.2.1 cl (ev_rho G r, ev_cnv G c) H1) (z : H1.size = H.size) (o : ∀ q, q ≠ ev_rho G r → H1[q]? = H[q]?) : ev_H cl G (ev_set w r c) H1 := by
  obtain ⟨h1, h2, h3, h4⟩ := h
  refine ⟨fun q hq => ?_, by rw [z]; exact h2, by rw [z]; exact h3, fun q c' hc => ?_⟩
  · rw [o q (fun e => by simp only [ev_rho] at e; rw [if_neg (by omega)] at e; omega)]
    exact h1 q hq
  · by_cases hq : q = r
    · subst hq
      simp only [ev_set, if_pos] at hc
      cases hc
      exact he
    · simp only [ev_set, if_neg hq] at hc
      exact (h4 q c' hc).kept (o _ (fun e => hq (ev_rho_hi hi hr e)))
/-- a cell is made -/
theorem ev_H.new {cl : List vw_C} {G : Ev_G} {w : Ev_W} {H H1 : Heap} {c : Ev_K} (h : ev_H cl G w H) (he : va_at G.2.1 cl (H.size, ev_cnv G c) H1) (z : H1.size = H.size + 1) (o : ∀ q, q < H.size → H1[q]? = H[q]?) : ev_H cl G (ev_new w c) H1 := by
  have hlo := h.lo
  obtain ⟨h1, h2, h3, h4⟩ := h
  refine ⟨fun q hq => ?_, by rw [z]; show _ = _ + (w.1 + 1); omega, by omega, fun q c' hc => ?_⟩
  · rw [o q (by omega)]
    exact h1 q hq
  · by_cases hq : q = w.1
    · subst hq
      simp only [ev_new, if_pos] at hc
      cases hc
      have e : ev_rho G w.1 = H.size := by
        simp only [ev_rho]; rw [if_neg (by omega)]; omega
      rw [e]
      exact he
    · simp only [ev_new, if_neg hq] at hc
      have h5 := h4 q c' hc
      exact h5.kept (o _ h5.lt)
theorem ev_rho_next {cl : List vw_C} {G : Ev_G} {w : Ev_W} {H : Heap} (h : ev_H cl G w H) : ev_rho G w.1 = H.size := by
  have hlo := h.lo
  have h2 := h.2.1
  simp only [ev_rho]; rw [if_neg (by omega)]; omega
/-! ===== LOCALS: values of one word, and longs ===== -/
abbrev Ev_L : Type := (Nat → Option Value) × (Nat → Option Int64)
def ev_L (G : Ev_G) (nL : Nat) (ls : Ev_L) (a : Array Slot) : Prop := a.size = nL ∧ lv_wf a ∧ (∀ (i : Nat) (v : Value), ls.1 i = some v → v.category = 1 ∧ a[i]? = some (.val (ev_mv G v))) ∧ ∀ (i : Nat) (x : Int64), ls.2 i = some x → a[i]? = some (.val (.long x))
def ev_st (ls : Ev_L) (i : Nat) (v : Value) : Ev_L := (fun j => if j = i then some v else ls.1 j, fun j => if j = i then none else if j + 1 = i then none else ls.2 j)
def ev_sl (ls : Ev_L) (i : Nat) (x : Int64) : Ev_L := (fun j => if j = i then none else if j = i + 1 then none else ls.1 j, fun j => if j = i then some x else if j = i + 1 then none else if j + 1 = i then none else ls.2 j)
def ev_tab (G : Ev_G) (n : Nat) (ls : Ev_L) : List (Nat × Value) := (List.range n).flatMap fun i => (match ls.1 i with | some v => [(i, ev_mv G v)] | none => []) ++ (match ls.2 i with | some x => [(i, Value.long x)] | none => [])
theorem ev_tab1 {G : Ev_G} {n : Nat} {ls : Ev_L} {i : Nat} {v : Value} (hi : i < n) (h : ls.1 i = some v) : (i, ev_mv G v) ∈ ev_tab G n ls := by
  refine List.mem_flatMap.mpr ⟨i, List.mem_range.mpr hi, ?_⟩
  rw [h]
  simp
theorem ev_tab2 {G : Ev_G} {n : Nat} {ls : Ev_L} {i : Nat} {x : Int64} (hi : i < n) (h : ls.2 i = some x) : (i, Value.long x) ∈ ev_tab G n ls := by
  refine List.mem_flatMap.mpr ⟨i, List.mem_range.mpr hi, ?_⟩
  rw [h]
  simp
theorem ev_L.has {G : Ev_G} {nL : Nat} {ls : Ev_L} {a : Array Slot} (h : ev_L G nL ls a) : lv_has a nL (ev_tab G nL ls) := by
  refine ⟨h.1, h.2.1, fun q hq => ?_⟩
  obtain ⟨i, -, hm⟩ := List.mem_flatMap.mp hq
  rcases List.mem_append.mp hm with hm | hm
  · cases e : ls.1 i with
    | none => rw [e] at hm; cases hm
    | some v =>
      rw [e] at hm
      rw [List.mem_singleton.mp hm]
      exact (h.2.2.1 i v e).2
  · cases e : ls.2 i with
    | none => rw [e] at hm; cases hm
    | some v =>
      rw [e] at hm
      rw [List.mem_singleton.mp hm]
      exact h.2.2.2 i v e
theorem ev_lt {G : Ev_G} {nL : Nat} {ls : Ev_L} {a : Array Slot} (h : ev_L G nL ls a) {i : Nat} {s : Slot} (e : a[i]? = some s) : i < nL := by rw [← h.1]; exact (Array.getElem?_eq_some_iff.mp e).1
/-- storing a word -/
theorem ev_L.st {G : Ev_G} {nL : Nat} {ls : Ev_L} {a a' : Array Slot} {i : Nat} {v : Value} (h : ev_L G nL ls a) (hc : v.category = 1)
    (h' : lv_has a' nL ((i, ev_mv G v) :: (ev_tab G nL ls).filter (fun q => !(q.1 == i) && !(q.1 + 1 == i && q.2.category == 2)))) : ev_L G nL (ev_st ls i v) a' := by
  refine ⟨h'.1, h'.2.1, fun j u hj => ?_, fun j x hj => ?_⟩
  · by_cases e : j = i
    · subst e
      simp only [ev_st, if_pos] at hj
      cases hj
      exact ⟨hc, h'.2.2 _ List.mem_cons_self⟩
    · simp only [ev_st, if_neg e] at hj
      obtain ⟨c1, c2⟩ := h.2.2.1 j u hj
      refine ⟨c1, h'.2.2 (j, ev_mv G u) (List.mem_cons_of_mem _ (List.mem_filter.mpr ⟨ev_tab1 (ev_lt h c2) hj, ?_⟩))⟩
      simp [e, ev_mv_cat, c1]
  · by_cases e : j = i
    · simp [ev_st, e] at hj
    · by_cases e2 : j + 1 = i
      · simp [ev_st, e, e2] at hj
      · simp only [ev_st, if_neg e, if_neg e2] at hj
        have c2 := h.2.2.2 j x hj
        refine h'.2.2 (j, .long x) (List.mem_cons_of_mem _ (List.mem_filter.mpr ⟨ev_tab2 (ev_lt h c2) hj, ?_⟩))
        simp [e, e2]
/-- storing a long -/
theorem ev_L.sl {G : Ev_G} {nL : Nat} {ls : Ev_L} {a a' : Array Slot} {i : Nat} {y : Int64} (h : ev_L G nL ls a)
    (h' : lv_has a' nL ((i, Value.long y) :: (ev_tab G nL ls).filter (fun q => !(q.1 == i) && (!(q.1 == i + 1) && !(q.1 + 1 == i && q.2.category == 2))))) : ev_L G nL (ev_sl ls i y) a' := by
  refine ⟨h'.1, h'.2.1, fun j u hj => ?_, fun j x hj => ?_⟩
  · by_cases e : j = i
    · simp [ev_sl, e] at hj
    · by_cases e2 : j = i + 1
      · simp [ev_sl, e2] at hj
      · simp only [ev_sl, if_neg e, if_neg e2] at hj
        obtain ⟨c1, c2⟩ := h.2.2.1 j u hj
        refine ⟨c1, h'.2.2 (j, ev_mv G u) (List.mem_cons_of_mem _ (List.mem_filter.mpr ⟨ev_tab1 (ev_lt h c2) hj, ?_⟩))⟩
        simp [e, e2, ev_mv_cat, c1]
  · by_cases e : j = i
    · subst e
      simp only [ev_sl, if_pos] at hj
      cases hj
      exact h'.2.2 _ List.mem_cons_self
    · by_cases e2 : j = i + 1
      · simp [ev_sl, e2] at hj
      · by_cases e3 : j + 1 = i
        · simp [ev_sl, e, e2, e3] at hj
        · simp only [ev_sl, if_neg e, if_neg e2, if_neg e3] at hj
          have c2 := h.2.2.2 j x hj
          refine h'.2.2 (j, .long x) (List.mem_cons_of_mem _ (List.mem_filter.mpr ⟨ev_tab2 (ev_lt h c2) hj, ?_⟩))
          simp [e, e2, e3]
/-- the locals at a method's entry -/
def ev_in (as : List Value) : Ev_L := (fun j => match (lv_args 0 as).lookup j with | some v => if v.category = 1 then some v else none | none => none, fun j => match (lv_args 0 as).lookup j with | some (.long x) => some x | _ => none)
theorem ev_lookup_args : ∀ (as : List Value) (i j : Nat) (v : Value), (lv_args i as).lookup j = some v → (j, v) ∈ lv_args i as
  | [], i, j, v, h => by simp [lv_args] at h
  | a :: t, i, j, v, h => by
    simp only [lv_args, List.lookup_cons] at h
    by_cases e : j = i
    · subst e
      simp at h
      subst h
      exact List.mem_cons_self
    · have e2 : (j == i) = false := by simp [e]
      rw [e2] at h
      exact List.mem_cons_of_mem _ (ev_lookup_args t _ j v h)
theorem ev_args_map (G : Ev_G) : ∀ (as : List Value) (i : Nat), lv_args i (as.map (ev_mv G)) = (lv_args i as).map (fun q => (q.1, ev_mv G q.2))
  | [], i => rfl
  | a :: t, i => by
    simp only [List.map_cons, lv_args, ev_mv_cat]
    rw [ev_args_map G t]
theorem ev_L.entry {G : Ev_G} (as : List Value) {n : Nat} (h : (lg_sl (as.map (ev_mv G))).length ≤ n) : ev_L G n (ev_in as) ((lg_sl (as.map (ev_mv G)) ++ List.replicate (n - (lg_sl (as.map (ev_mv G))).length) Slot.unset).toArray) := by
  have hl := lv_entry (as.map (ev_mv G)) h
  refine ⟨hl.1, hl.2.1, fun i v e => ?_, fun i x e => ?_⟩
  · simp only [ev_in] at e
    cases e2 : (lv_args 0 as).lookup i with
    | none => rw [e2] at e; cases e
    | some u =>
      rw [e2] at e
      by_cases hc : u.category = 1
      · simp [hc] at e
        subst e
        refine ⟨hc, hl.2.2 (i, ev_mv G u) ?_⟩
        rw [ev_args_map]
        exact List.mem_map.mpr ⟨(i, u), ev_lookup_args _ _ _ _ e2, rfl⟩
      · simp [hc] at e
  · simp only [ev_in] at e
    have h2 : (lv_args 0 as).lookup i = some (.long x) := by
      cases e2 : (lv_args 0 as).lookup i with
      | none => rw [e2] at e; cases e
      | some u => rw [e2] at e; cases u <;> simp_all
    refine hl.2.2 (i, .long x) ?_
    rw [ev_args_map]
    exact List.mem_map.mpr ⟨(i, .long x), ev_lookup_args _ _ _ _ h2, rfl⟩
/-! ===== THE MACHINE'S CONTEXT OF A WALK ===== -/
abbrev Ev_X : Type := Program × Env × Room × State × MethodId × Array Value × List Frame × Method × Code × (State → Prop)
/-- class, name, code, locals, what it returns -/
abbrev Ev_M : Type := String × MethodName × ByteArray × Nat × Option FieldType
def ev_good (w : Cond) : Bool := (w.onTables && w.keeps) || (match w with | .arrayClass _ => true | _ => false)
def ev_tbl : List Cond := lw_tbl.filter ev_good
theorem ev_tbl_in {w : Cond} (h : w ∈ ev_tbl) : w ∈ lw_tbl := (List.mem_filter.mp h).1
theorem ev_tbl_ok {w : Cond} (h : w ∈ ev_tbl) : ((w.onTables && w.keeps) = true ∨ ∃ ty, w = .arrayClass ty) := by
  have h2 := (List.mem_filter.mp h).2
  unfold ev_good at h2
  rcases Bool.or_eq_true_iff.mp h2 with h3 | h3
  · exact Or.inl h3
  · cases w <;> first | exact Or.inr ⟨_, rfl⟩ | (simp at h3)
def ev_tys (G : Ev_G) : List (ClassId × FieldType) := ev_arrs.zipIdx.map (fun q => (G.2.2.1 q.2, q.1))
abbrev ev_A (G : Ev_G) : Nat → Prop := fun q => G.2.2.2.2.size ≤ q
/-- what a state's tables say, and the static fields -/
def ev_T (G : Ev_G) (U : State) : Prop := va_K G.2.1 vwCl (ev_tys G) U ∧ va_En "ElementFiles$Sort" "LElementFiles$Sort;" ev_nm ev_fl G.2.2.2.1 (ev_A G) U G.2.2.2.2 ∧ va_Z "ElementFiles$Sort" "ALL" "[LElementFiles$Sort;" (.ref (G.2.2.2.1 17)) (ev_A G) U G.2.2.2.2 ∧ va_T (.object "ElementFiles$Sort") (G.2.2.2.1 17) 17 (fun j => .ref (G.2.2.2.1 j)) (ev_A G) U G.2.2.2.2 ∧ (∀ w ∈ ev_nest, va_Nw w U) ∧ ∀ C ∈ ev_over, va_AO C U
theorem ev_T.same {G : Ev_G} {u U : State} (h : u.vm = U.vm) (k : ev_T G u) : ev_T G U := by
  have ha : u.vm.Alike U.vm := by rw [h]; exact Vm.Alike.refl _
  exact ⟨va_K.moved ha k.1, k.2.1.moved ha, k.2.2.1.moved ha, k.2.2.2.1.moved ha, fun w hw => (k.2.2.2.2.1 w hw).same (ev_nest_tab w hw) h, fun C hC => (k.2.2.2.2.2 C hC).moved ha⟩
theorem ev_T.warm {G : Ev_G} {s U : State} (h : s.WarmedH U.vm) (k : ev_T G s) : ev_T G U :=
  ⟨va_K.moved h.alike k.1, k.2.1.moved h.alike, k.2.2.1.moved h.alike, k.2.2.2.1.moved h.alike, fun w hw => ev_nest_warm w hw h (k.2.2.2.2.1 w hw), fun C hC => (k.2.2.2.2.2 C hC).moved h.alike⟩
def ev_C (G : Ev_G) (M : Ev_M) (d : Nat) (X : Ev_X) : Prop :=
  X.1.tables.exec = Jvm.exec ∧ X.2.2.2.2.2.2.2.2.1.code = M.2.2.1 ∧ X.2.2.2.2.2.2.2.2.1.maxLocals = M.2.2.2.1 ∧ X.2.2.2.1.vm.findClass M.1 = some X.2.2.2.2.1.cls ∧ (∀ w ∈ ev_tbl, w.before X.2.2.2.2.2.1 X.2.2.2.1 = true) ∧ ev_T G X.2.2.2.1 ∧ ev_inj G ∧ (∀ q : Nat, q < G.2.2.2.2.size → X.2.2.2.1.heap[q]? = G.2.2.2.2[q]?) ∧ G.2.2.2.2.size ≤ X.2.2.2.1.heap.size ∧ d ≤ X.2.2.1.frames ∧ d * 38 ≤ X.2.2.1.locals ∧ X.2.2.2.2.2.2.2.1.locks = false
/-- the machine, at pc with these locals, this stack, this world, comes to the end that X asks; it may make bc cells of bs slots more -/
def ev_W (G : Ev_G) (M : Ev_M) (X : Ev_X) (bc bs pc : Nat) (ls : Ev_L) (st : List Value) (w : Ev_W) : Prop :=
  ∀ (H : Heap) (locs : List Loc) (a : Array Slot) (cells slots : Nat), ev_H vwCl G w H → (∀ q ∈ locs, G.2.2.2.2.size ≤ q.base) → ev_L G M.2.2.2.1 ls a → cells + bc ≤ X.2.2.1.cells → slots + bs ≤ X.2.2.1.slots →
    W X.1 G.1 X.2.1 X.2.2.1 X.2.2.2.1 X.2.2.2.2.1 X.2.2.2.2.2.1 X.2.2.2.2.2.2.1 X.2.2.2.2.2.2.2.1 X.2.2.2.2.2.2.2.2.1 H locs cells slots X.2.2.2.2.2.2.2.2.2 (F0 X.2.2.2.2.1 pc a (st.map (ev_mv G)))
def ev_rm (d mc ms : Nat) : Room := { frames := d, cells := mc, slots := ms, locals := d * 38 }
def ev_Q (G : Ev_G) (Q : Option Value → Ev_W → Prop) : Array Value → State → Outcome → State → Prop := fun _ _ o t => ∃ (v : Option Value) (w : Ev_W), o = .returned (v.map (ev_mv G)) ∧ ev_H vwCl G w t.heap ∧ Q v w
def ev_R (G : Ev_G) (M : Ev_M) (mc ms : Nat) (Q : Option Value → Ev_W → Prop) (X : Ev_X) : Prop :=
  X.2.2.2.2.2.2.2.2.2 = MQ X.2.2.2.2.2.2.1 (ev_Q G Q) X.2.2.2.2.2.1 X.2.2.2.1 mc ms (fun q => G.2.2.2.2.size ≤ q) ∧ X.2.2.1.cells = mc ∧ X.2.2.1.slots = ms ∧ X.2.2.2.2.2.2.2.1.sig.returnType = M.2.2.2.2 ∧ X.2.2.2.2.2.2.2.1.name = M.2.1.name
def ev_ws (M : Ev_M) : List Cond := Cond.code M.2.1 M.2.2.1 M.2.2.2.1 M.2.2.2.2 :: ev_tbl
/-- THE CONTRACT of a method at these arguments in this world: it returns, with Q -/
def ev_Met (G : Ev_G) (M : Ev_M) (d mc ms : Nat) (as : List Value) (w : Ev_W) (Q : Option Value → Ev_W → Prop) : Prop :=
  Met G.1 M.2.1 (ev_ws M) (ev_rm d mc ms) (va_Pc (as.map (ev_mv G)) (fun U => ev_H vwCl G w U.heap ∧ ev_T G U ∧ ev_inj G)) (ev_Q G Q) mc ms (fun q => G.2.2.2.2.size ≤ q)
/-- a method's own facts: its code is in the tables, its class is named as it must be -/
def ev_MD (M : Ev_M) : Prop := plainName M.2.1.cls = true ∧ M.2.1.cls = M.1 ∧ Cond.code M.2.1 M.2.2.1 M.2.2.2.1 M.2.2.2.2 ∈ ev_tbl ∧ M.2.2.2.1 ≤ 19
theorem ev_Met.of {G : Ev_G} {M : Ev_M} {d mc ms : Nat} {as : List Value} {w : Ev_W} {Q : Option Value → Ev_W → Prop} (hM : ev_MD M) (hn : (lg_sl (as.map (ev_mv G))).length ≤ M.2.2.2.1)
    (body : ∀ X : Ev_X, ev_C G M d X → ev_R G M mc ms Q X → ev_W G M X mc ms 0 (ev_in as) [] w) : ev_Met G M d mc ms as w Q := by
  refine Met.ofW (cc := M.2.2.1) (maxL := M.2.2.2.1) (ret := M.2.2.2.2) hM.1 rfl ?_
  intro p e s m args below meth c s₁ B hml hv
  obtain ⟨rfl, hH, hT, hi⟩ := hv
  have hts := atoms_spec (ws := ev_ws M) B.pre
  have hown : s.vm.findClass M.1 = some m.cls := by rw [← hM.2.1]; exact findClass_of_methodNamed B.named
  rw [lg_entry_eq]
  refine body (p, e, ev_rm d mc ms, s, m, (as.map (ev_mv G)).toArray, below, meth, c, MQ below (ev_Q G Q) (as.map (ev_mv G)).toArray s mc ms (fun q => G.2.2.2.2.size ≤ q)) ⟨B.exec, B.bytes, hml, hown, fun w hw => hts w (List.mem_cons_of_mem _ hw), hT, hi, hH.1, hH.2.2.1, Nat.le_refl _, Nat.le_refl _, B.notSynchronized⟩ ⟨rfl, rfl, rfl, B.returns, (name_of_methodNamed B.named B.method).1⟩ s.heap [] _ 0 0 hH (fun _ h => by cases h) (ev_L.entry as hn) (by show 0 + mc ≤ mc; omega) (by show 0 + ms ≤ ms; omega)
theorem ev_Met.mono {G : Ev_G} {M : Ev_M} {d mc ms : Nat} {as : List Value} {w : Ev_W} {Q Q' : Option Value → Ev_W → Prop} (h : ev_Met G M d mc ms as w Q) (hq : ∀ v w', Q v w' → Q' v w') : ev_Met G M d mc ms as w Q' := by
  intro p e ha hc hk s m args below hf happ hP hK
  obtain ⟨n, o, h1, h2, h3, ⟨v, w', e1, e2, e3⟩, h5⟩ := h p e ha hc hk s m args below hf happ hP hK
  exact ⟨n, o, h1, h2, h3, ⟨v, w', e1, e2, hq v w' e3⟩, h5⟩
