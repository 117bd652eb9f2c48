/-! ===== FIELDS, ARRAYS, NEW CELLS, CALLS, RETURNS over pure worlds ===== -/
theorem ev_one {D : va_G} {cl : List vw_C} {q : Nat × va_E} {H : Heap} (h : va_at D cl q H) : va_P D cl [q] H := fun k x hx => by
  cases k with
  | zero => cases hx; exact h
  | succ k => simp at hx
theorem ev_tys_at {G : Ev_G} {k : Nat} {ty : FieldType} (h : ev_arrs[k]? = some ty) : (ev_tys G)[k]? = some (G.2.2.1 k, ty) := by
  unfold ev_tys
  rw [List.getElem?_map, List.getElem?_zipIdx, h]
  simp
theorem ev_fit {G : Ev_G} {ty : FieldType} {v : Value} (h1 : narrow ty v = v) (h2 : fits ty v = true) : narrow ty (ev_mv G v) = ev_mv G v ∧ fits ty (ev_mv G v) = true := by
  cases v with
  | ref a => cases ty <;> first | exact ⟨rfl, rfl⟩ | (simp [fits] at h2)
  | _ => exact ⟨h1, h2⟩
theorem ev_hi {G : Ev_G} {r : Nat} (h : 100 ≤ r) : G.2.2.2.2.size ≤ ev_rho G r := by
  simp only [ev_rho]; rw [if_neg (by omega)]; omega
theorem ev_locs {G : Ev_G} {locs : List Loc} {r k : Nat} (hl : ∀ q ∈ locs, G.2.2.2.2.size ≤ q.base) (h : 100 ≤ r) : ∀ q ∈ locs ++ [⟨ev_rho G r, k⟩], G.2.2.2.2.size ≤ q.base := by
  intro q hq
  rcases List.mem_append.mp hq with h1 | h1
  · exact hl q h1
  · rw [List.mem_singleton.mp h1]
    exact ev_hi h
/-- a field that an instruction of class own names: the k-th of class ci -/
def ev_F (own : String) (index ci k : Nat) : Prop := ∃ (C : String) (T : u_T) (N : Nat), vwCl[ci]? = some (C, T, N) ∧ k < N ∧ (∀ w ∈ u_ws C T N, w ∈ ev_tbl) ∧ (T k).1 = C ∧ Cond.fieldLink own index C (T k).2.1 (T k).2.2.1 ∈ ev_tbl
def ev_FP (own : String) (index ci k : Nat) (ty : FieldType) (fin : Bool) : Prop := ∃ (C : String) (T : u_T) (N : Nat) (ty0 : Nat → FieldType), vwCl[ci]? = some (C, T, N) ∧ k < N ∧ (∀ w ∈ u_ws C T N, w ∈ ev_tbl) ∧ (T k).1 = C ∧ Cond.fieldLink own index C (T k).2.1 (T k).2.2.1 ∈ ev_tbl ∧
  (∀ j, j < N → parseFieldDescriptor (T j).2.2.1 = some (ty0 j)) ∧ (∀ a, a < N → ∀ b, b < N → a ≠ b → (T a).2.1 ≠ (T b).2.1) ∧ ty0 k = ty ∧ (T k).2.2.2 = fin
section EvH
variable {G : Ev_G} {M : Ev_M} {d : Nat} {X : Ev_X} {bc bs pc : Nat} {ls : Ev_L} {st : List Value} {w : Ev_W}
theorem r_getf (hX : ev_C G M d X) {index ci k r : Nat} {fs : List Value} {v : Value} (hd : decode M.2.2.1 pc = .ok (.getfield index, 3)) (hF : ev_F M.1 index ci k) (hw : w.2 r = some (.inr (ci, fs))) (hv : fs[k]? = some v) (kk : ev_W G M X bc bs (pc + 3) ls (v :: st) w) : ev_W G M X bc bs pc ls (.ref r :: st) w := by
  obtain ⟨hx, hb, hm, ho, ht, hT, hi, hz, hzs, hdf, hdl, hlk⟩ := hX
  intro H locs a cells slots hH hl hL hc hs
  obtain ⟨C, T, N, h1, h2, h3, h4, h5⟩ := hF
  exact va_get hx hb ht h3 ho hT.1 (ev_one (hH.2.2.2 r _ hw)) 0 rfl h1 k h2 (ht _ h5) (fun _ h => by rw [h4] at h; exact h) (v := ev_mv G v) (by rw [List.getElem?_map, hv]; rfl) hd (kk H locs a cells slots hH hl hL hc hs)
theorem r_putf (hX : ev_C G M d X) {index ci k r : Nat} {ty : FieldType} {fs : List Value} {v : Value} (hd : decode M.2.2.1 pc = .ok (.putfield index, 3)) (hF : ev_FP M.1 index ci k ty false) (hw : w.2 r = some (.inr (ci, fs))) (hr : 100 ≤ r) (hn : narrow ty v = v) (hv : fits ty v = true) (hk : k < fs.length) (kk : ev_W G M X bc bs (pc + 3) ls st (ev_set w r (.inr (ci, fs.set k v)))) : ev_W G M X bc bs pc ls (v :: .ref r :: st) w := by
  obtain ⟨hx, hb, hm, ho, ht, hT, hi, hz, hzs, hdf, hdl, hlk⟩ := hX
  intro H locs a cells slots hH hl hL hc hs
  obtain ⟨C, T, N, ty0, h1, h2, h3, h4, h5, hty, hnm, hk0, hfin⟩ := hF
  obtain ⟨hn', hv'⟩ := ev_fit (G := G) hn hv
  have hap := va_apart (own := M.1) ht h3 ty0 hty hnm hT.1 h1
  obtain ⟨rr, g1, cell, q1, q2, q3, q4⟩ := hH.2.2.2 r _ hw
  have hrr : rr = (C, T, N) := Option.some.inj (g1.symm.trans h1)
  subst hrr
  obtain ⟨hS, hfc, kC, hkC, hkind⟩ := hT.1.1 ci _ h1
  obtain ⟨cf, kf, fi, f, hif, hsl⟩ := hS k h2
  have hlay := ht _ (h3 _ (u_in_lay h2))
  unfold u_lay at hlay
  rw [if_neg (by rw [hfin]; decide)] at hlay
  have hst := (u_facts hfc hkC (u_lays ht h3 h2) hif).1
  have h6 := u_store hfc hkC hkind hlay hif (by rw [hty k h2, hk0]) hn' hv'
  refine W.putK hx hb (f := f) ⟨ho, ht _ h5, ⟨_, _, _, (by rw [h4] at hif; exact hif)⟩, hst⟩ (by rw [q2]; exact h6) q1 q3 (by rw [hsl]; exact k2_hasslot (q4 k h2)) rfl rfl hd fun H' e1 e2 e3 => ?_
  rw [hsl] at e1
  refine kk H' _ a cells slots (hH.set hi hr ⟨_, h1, t_OB.to (V := updV (vp_V (fs.map (ev_mv G))) k (ev_mv G v)) ⟨_, e1, q2, q3, t_set q4 hap h2 _⟩ (fun j _ => ?_)⟩ e2 e3) (ev_locs hl hr) hL hc hs
  rw [vp_updV_set (by rw [List.length_map]; exact hk), List.map_set]
theorem r_putF (hX : ev_C G M d X) {index ci k r : Nat} {ty : FieldType} {fs : List Value} {v : Value} (hd : decode M.2.2.1 pc = .ok (.putfield index, 3)) (hF : ev_FP M.1 index ci k ty true) (hin : X.2.2.2.2.2.2.2.1.name = "<init>") (hC : (vwCl[ci]?).map (fun q => q.1) = some M.1) (hw : w.2 r = some (.inr (ci, fs))) (hr : 100 ≤ r) (hn : narrow ty v = v) (hv : fits ty v = true) (hk : k < fs.length) (kk : ev_W G M X bc bs (pc + 3) ls st (ev_set w r (.inr (ci, fs.set k v)))) : ev_W G M X bc bs pc ls (v :: .ref r :: st) w := by
  obtain ⟨hx, hb, hm, ho, ht, hT, hi, hz, hzs, hdf, hdl, hlk⟩ := hX
  intro H locs a cells slots hH hl hL hc hs
  obtain ⟨C, T, N, ty0, h1, h2, h3, h4, h5, hty, hnm, hk0, hfin⟩ := hF
  obtain ⟨hn', hv'⟩ := ev_fit (G := G) hn hv
  have hCM : C = M.1 := by rw [h1] at hC; exact Option.some.inj hC
  have hap := va_apart (own := M.1) ht h3 ty0 hty hnm hT.1 h1
  obtain ⟨rr, g1, cell, q1, q2, q3, q4⟩ := hH.2.2.2 r _ hw
  have hrr : rr = (C, T, N) := Option.some.inj (g1.symm.trans h1)
  subst hrr
  obtain ⟨hS, hfc, kC, hkC, hkind⟩ := hT.1.1 ci _ h1
  obtain ⟨cf, kf, fi, f, hif, hsl⟩ := hS k h2
  have hlay := ht _ (h3 _ (u_in_lay h2))
  unfold u_lay at hlay
  rw [if_pos hfin] at hlay
  have hst := (u_facts hfc hkC (u_lays ht h3 h2) hif).1
  have hcf : X.2.2.2.2.1.cls = cf := by
    obtain ⟨_, _, c', _, _, _, -, -, hf', -, -, -, hown2, -⟩ := Cond.laysFinal_spec hlay
    have e1 : c' = cf := by have := hif.symm.trans hf'; simp at this; exact this.1.symm
    rw [h4, hCM] at hown2
    rw [← e1]; exact Option.some.inj (ho.symm.trans hown2)
  have h6 := u_fits hfc hkC hkind (Or.inr hlay) hif (by rw [hty k h2, hk0]) hn' hv'
  refine W.putFinK hx hb ho (ht _ h5) (by rw [h4] at hif; exact hif) hst hcf hin (by rw [q2]; exact h6) q1 q3 (by rw [hsl]; exact k2_hasslot (q4 k h2)) rfl rfl hd fun H' e1 e2 e3 => ?_
  rw [hsl] at e1
  refine kk H' _ a cells slots (hH.set hi hr ⟨_, h1, t_OB.to (V := updV (vp_V (fs.map (ev_mv G))) k (ev_mv G v)) ⟨_, e1, q2, q3, t_set q4 hap h2 _⟩ (fun j _ => ?_)⟩ e2 e3) (ev_locs hl hr) hL hc hs
  rw [vp_updV_set (by rw [List.length_map]; exact hk), List.map_set]
theorem r_iald (hX : ev_C G M d X) {k n r : Nat} {f : Nat → Int32} {i : Int32} (hd : decode M.2.2.1 pc = .ok (.iaload, 1)) (hw : w.2 r = some (.inl (k, n, .inl f))) (hk : ev_arrs[k]? = some .int) (hin : vp_in i n) (kk : ev_W G M X bc bs (pc + 1) ls (.int (f i.toNatClampNeg) :: st) w) : ev_W G M X bc bs pc ls (.int i :: .ref r :: st) w := by
  obtain ⟨hx, hb, hm, ho, ht, hT, hi, hz, hzs, hdf, hdl, hlk⟩ := hX
  intro H locs a cells slots hH hl hL hc hs
  exact va_iald hx hb hT.1 (ev_one (hH.2.2.2 r _ hw)) 0 k rfl (ev_tys_at hk) hin hd (kk H locs a cells slots hH hl hL hc hs)
theorem r_lald (hX : ev_C G M d X) {k n r : Nat} {f : Nat → Int64} {i : Int32} (hd : decode M.2.2.1 pc = .ok (.laload, 1)) (hw : w.2 r = some (.inl (k, n, .inr (.inl f)))) (hk : ev_arrs[k]? = some .long) (hin : vp_in i n) (kk : ev_W G M X bc bs (pc + 1) ls (.long (f i.toNatClampNeg) :: st) w) : ev_W G M X bc bs pc ls (.int i :: .ref r :: st) w := by
  obtain ⟨hx, hb, hm, ho, ht, hT, hi, hz, hzs, hdf, hdl, hlk⟩ := hX
  intro H locs a cells slots hH hl hL hc hs
  exact va_lald hx hb hT.1 (ev_one (hH.2.2.2 r _ hw)) 0 k rfl (ev_tys_at hk) hin hd (kk H locs a cells slots hH hl hL hc hs)
theorem r_aald (hX : ev_C G M d X) {k n r : Nat} {C : String} {f : Nat → Option Nat} {i : Int32} (hd : decode M.2.2.1 pc = .ok (.aaload, 1)) (hw : w.2 r = some (.inl (k, n, .inr (.inr f)))) (hk : ev_arrs[k]? = some (.object C)) (hin : vp_in i n) (kk : ev_W G M X bc bs (pc + 1) ls (va_rf (f i.toNatClampNeg) :: st) w) : ev_W G M X bc bs pc ls (.int i :: .ref r :: st) w := by
  obtain ⟨hx, hb, hm, ho, ht, hT, hi, hz, hzs, hdf, hdl, hlk⟩ := hX
  intro H locs a cells slots hH hl hL hc hs
  refine va_aldq hx hb hT.1 (ev_one (hH.2.2.2 r _ hw)) 0 k rfl (ev_tys_at hk) hin hd ?_
  have h9 := kk H locs a cells slots hH hl hL hc hs
  rw [List.map_cons, ev_mv_rf] at h9
  exact h9
theorem ev_len {n : Nat} (h : n < 2 ^ 31) : n.toInt32 = nI n := rfl
theorem r_alen (hX : ev_C G M d X) {k n r : Nat} {ty : FieldType} {f : (Nat → Int32) ⊕ (Nat → Int64) ⊕ (Nat → Option Nat)} (hd : decode M.2.2.1 pc = .ok (.arraylength, 1)) (hw : w.2 r = some (.inl (k, n, f))) (hk : ev_arrs[k]? = some ty) (kk : ev_W G M X bc bs (pc + 1) ls (.int (nI n) :: st) w) : ev_W G M X bc bs pc ls (.ref r :: st) w := by
  obtain ⟨hx, hb, hm, ho, ht, hT, hi, hz, hzs, hdf, hdl, hlk⟩ := hX
  intro H locs a cells slots hH hl hL hc hs
  have hA := (hT.1.2 k _ (ev_tys_at hk)).1
  have h9 := kk H locs a cells slots hH hl hL hc hs
  have h8 := hH.2.2.2 r _ hw
  rcases f with f | f | f
  · exact W.alen hx hb h8 (hA n (fun j => .int (f j))) (by show (arrV _ _ _).slots.size.toInt32 = nI n; rw [arrV_size]; rfl) rfl rfl hd h9
  · exact W.alen hx hb h8 (hA n (fun j => .long (f j))) (by show (arrV _ _ _).slots.size.toInt32 = nI n; rw [arrV_size]; rfl) rfl rfl hd h9
  · exact W.alen hx hb h8 (hA n (fun j => va_rf ((f j).map (ev_rho G)))) (by show (arrV _ _ _).slots.size.toInt32 = nI n; rw [arrV_size]; rfl) rfl rfl hd h9
theorem r_iast (hX : ev_C G M d X) {k n r : Nat} {f : Nat → Int32} {i x : Int32} (hd : decode M.2.2.1 pc = .ok (.iastore, 1)) (hw : w.2 r = some (.inl (k, n, .inl f))) (hr : 100 ≤ r) (hk : ev_arrs[k]? = some .int) (hin : vp_in i n) (kk : ev_W G M X bc bs (pc + 1) ls st (ev_set w r (.inl (k, n, .inl (upd f i.toNatClampNeg x))))) : ev_W G M X bc bs pc ls (.int x :: .int i :: .ref r :: st) w := by
  obtain ⟨hx, hb, hm, ho, ht, hT, hi, hz, hzs, hdf, hdl, hlk⟩ := hX
  intro H locs a cells slots hH hl hL hc hs
  have hA := (hT.1.2 k _ (ev_tys_at hk)).1
  refine W.iast hx hb (hH.2.2.2 r _ hw) (hA n (fun j => .int (f j))) (fun q => by cases q) (by show ¬ (i < 0 ∨ (arrV _ _ _).slots.size ≤ _); rw [arrV_size]; exact hin) rfl rfl hd fun H1 e z oq => ?_
  refine kk H1 _ a cells slots (hH.set hi hr ?_ z oq) (ev_locs hl hr) hL hc hs
  show H1[_]? = some (arrV (G.2.2.1 k) n (fun j => .int (upd f i.toNatClampNeg x j)))
  rw [e]
  show some ((arrV (G.2.2.1 k) n (fun j => .int (f j))).setSlot i.toNatClampNeg (.int x)) = _
  rw [arrV_store]
  congr 2
  funext q
  by_cases hq : q = i.toNatClampNeg
  · subst hq; simp [updV, upd]
  · simp [updV, upd, hq]
theorem r_zald (hX : ev_C G M d X) {k n r : Nat} {f : Nat → Int32} {i : Int32} (hd : decode M.2.2.1 pc = .ok (.baload, 1)) (hw : w.2 r = some (.inl (k, n, .inl f))) (hk : ev_arrs[k]? = some .boolean) (hin : vp_in i n) (kk : ev_W G M X bc bs (pc + 1) ls (.int (f i.toNatClampNeg) :: st) w) : ev_W G M X bc bs pc ls (.int i :: .ref r :: st) w := by
  obtain ⟨hx, hb, hm, ho, ht, hT, hi, hz, hzs, hdf, hdl, hlk⟩ := hX
  intro H locs a cells slots hH hl hL hc hs
  exact va_zald hx hb hT.1 (ev_one (hH.2.2.2 r _ hw)) 0 k rfl (ev_tys_at hk) hin hd (kk H locs a cells slots hH hl hL hc hs)
theorem r_zast (hX : ev_C G M d X) {k n r : Nat} {f : Nat → Int32} {i x : Int32} (hd : decode M.2.2.1 pc = .ok (.bastore, 1)) (hw : w.2 r = some (.inl (k, n, .inl f))) (hr : 100 ≤ r) (hk : ev_arrs[k]? = some .boolean) (hin : vp_in i n) (kk : ev_W G M X bc bs (pc + 1) ls st (ev_set w r (.inl (k, n, .inl (upd f i.toNatClampNeg (x &&& 1)))))) : ev_W G M X bc bs pc ls (.int x :: .int i :: .ref r :: st) w := by
  obtain ⟨hx, hb, hm, ho, ht, hT, hi, hz, hzs, hdf, hdl, hlk⟩ := hX
  intro H locs a cells slots hH hl hL hc hs
  have hA := (hT.1.2 k _ (ev_tys_at hk)).1
  refine W.zast hx hb (hH.2.2.2 r _ hw) (hA n (fun j => .int (f j))) (fun q => by cases q) (by show ¬ (i < 0 ∨ (arrV _ _ _).slots.size ≤ _); rw [arrV_size]; exact hin) rfl rfl hd fun H1 e z oq => ?_
  refine kk H1 _ a cells slots (hH.set hi hr ?_ z oq) (ev_locs hl hr) hL hc hs
  show H1[_]? = some (arrV (G.2.2.1 k) n (fun j => .int (upd f i.toNatClampNeg (x &&& 1) j)))
  rw [e]
  show some ((arrV (G.2.2.1 k) n (fun j => .int (f j))).setSlot i.toNatClampNeg (narrow .boolean (.int x))) = _
  rw [arrV_store]
  congr 2
  funext q
  by_cases hq : q = i.toNatClampNeg
  · subst hq; simp [updV, upd, narrow]
  · simp [updV, upd, hq]
theorem r_last (hX : ev_C G M d X) {k n r : Nat} {f : Nat → Int64} {i : Int32} {x : Int64} (hd : decode M.2.2.1 pc = .ok (.lastore, 1)) (hw : w.2 r = some (.inl (k, n, .inr (.inl f)))) (hr : 100 ≤ r) (hk : ev_arrs[k]? = some .long) (hin : vp_in i n) (kk : ev_W G M X bc bs (pc + 1) ls st (ev_set w r (.inl (k, n, .inr (.inl (vp_updL f i.toNatClampNeg x)))))) : ev_W G M X bc bs pc ls (.long x :: .int i :: .ref r :: st) w := by
  obtain ⟨hx, hb, hm, ho, ht, hT, hi, hz, hzs, hdf, hdl, hlk⟩ := hX
  intro H locs a cells slots hH hl hL hc hs
  have hA := (hT.1.2 k _ (ev_tys_at hk)).1
  refine W.last hx hb (hH.2.2.2 r _ hw) (hA n (fun j => .long (f j))) (fun q => by cases q) (by show ¬ (i < 0 ∨ (arrV _ _ _).slots.size ≤ _); rw [arrV_size]; exact hin) rfl rfl hd fun H1 e z oq => ?_
  refine kk H1 _ a cells slots (hH.set hi hr ?_ z oq) (ev_locs hl hr) hL hc hs
  show H1[_]? = some (arrV (G.2.2.1 k) n (fun j => .long (vp_updL f i.toNatClampNeg x j)))
  rw [e]
  show some ((arrV (G.2.2.1 k) n (fun j => .long (f j))).setSlot i.toNatClampNeg (.long x)) = _
  rw [arrV_store]
  congr 2
  funext q
  by_cases hq : q = i.toNatClampNeg
  · subst hq; simp [updV, vp_updL]
  · simp [updV, vp_updL, hq]
theorem r_aastN (hX : ev_C G M d X) {k n r : Nat} {C : String} {f : Nat → Option Nat} {i : Int32} (hd : decode M.2.2.1 pc = .ok (.aastore, 1)) (hw : w.2 r = some (.inl (k, n, .inr (.inr f)))) (hr : 100 ≤ r) (hk : ev_arrs[k]? = some (.object C)) (hin : vp_in i n) (kk : ev_W G M X bc bs (pc + 1) ls st (ev_set w r (.inl (k, n, .inr (.inr (va_up f i.toNatClampNeg none)))))) : ev_W G M X bc bs pc ls (.null :: .int i :: .ref r :: st) w := by
  obtain ⟨hx, hb, hm, ho, ht, hT, hi, hz, hzs, hdf, hdl, hlk⟩ := hX
  intro H locs a cells slots hH hl hL hc hs
  have hA := (hT.1.2 k _ (ev_tys_at hk)).1
  refine va_WaastN (C := C) hx hb (hH.2.2.2 r _ hw) (hA n (fun j => va_rf ((f j).map (ev_rho G)))) (fun q => by cases q) (by show ¬ (i < 0 ∨ (arrV _ _ _).slots.size ≤ _); rw [arrV_size]; exact hin) rfl rfl hd fun H1 e z oq => ?_
  refine kk H1 _ a cells slots (hH.set hi hr ?_ z oq) (ev_locs hl hr) hL hc hs
  show H1[_]? = some (arrV (G.2.2.1 k) n (fun j => va_rf ((va_up f i.toNatClampNeg none j).map (ev_rho G))))
  rw [e]
  show some ((arrV (G.2.2.1 k) n (fun j => va_rf ((f j).map (ev_rho G)))).setSlot i.toNatClampNeg (.null)) = _
  rw [arrV_store]
  congr 2
  funext q
  by_cases hq : q = i.toNatClampNeg
  · subst hq; simp [updV, va_up, va_rf]
  · simp [updV, va_up, hq]
theorem r_aast (hX : ev_C G M d X) {k n r v ci : Nat} {cq : vw_C} {vs : List Value} {f : Nat → Option Nat} {i : Int32} (hd : decode M.2.2.1 pc = .ok (.aastore, 1)) (hw : w.2 r = some (.inl (k, n, .inr (.inr f)))) (hr : 100 ≤ r) (hv : w.2 v = some (.inr (ci, vs))) (hcq : vwCl[ci]? = some cq) (hk : ev_arrs[k]? = some (.object cq.1)) (hin : vp_in i n) (kk : ev_W G M X bc bs (pc + 1) ls st (ev_set w r (.inl (k, n, .inr (.inr (va_up f i.toNatClampNeg (some v))))))) : ev_W G M X bc bs pc ls (.ref v :: .int i :: .ref r :: st) w := by
  obtain ⟨hx, hb, hm, ho, ht, hT, hi, hz, hzs, hdf, hdl, hlk⟩ := hX
  intro H locs a cells slots hH hl hL hc hs
  have hlt : i.toNatClampNeg < n := Nat.not_le.mp fun q => hin (Or.inr q)
  have h0 : ¬ i < 0 := fun q => hin (Or.inl q)
  obtain ⟨r', hr', cellV, g1, g2, g3, -⟩ := hH.2.2.2 v _ hv
  have hcls := (hT.1.1 ci cq hcq).2
  obtain ⟨kA, comp, k1, k2, k3, -⟩ := (hT.1.2 k _ (ev_tys_at hk)).2
  have hcomp : comp = G.2.1.1 ci := Option.some.inj (k3.symm.trans hcls.1)
  subst hcomp
  obtain ⟨kC, hkC, -⟩ := hcls.2
  refine W.aast hx hb (hH.2.2.2 r _ hw) (fun q h => by cases h) (fun h => by cases h) k1 k2 rfl hkC ⟨h0, by show _ < (arrV _ _ _).slots.size; rw [arrV_size]; exact hlt⟩ g1 (fun q h => by rw [g3] at h; cases h) (by rw [g2]; exact hkC) (by rw [g2]; exact va_assign hcls) rfl rfl hd fun H1 e z oq => ?_
  refine kk H1 _ a cells slots (hH.set hi hr ?_ z oq) (ev_locs hl hr) hL hc hs
  show H1[_]? = some (arrV (G.2.2.1 k) n (fun j => va_rf ((va_up f i.toNatClampNeg (some v) j).map (ev_rho G))))
  rw [e]
  show some ((arrV (G.2.2.1 k) n (fun j => va_rf ((f j).map (ev_rho G)))).setSlot i.toNatClampNeg (.ref (ev_rho G v))) = _
  rw [arrV_store]
  congr 2
  funext q
  by_cases hq : q = i.toNatClampNeg
  · subst hq; simp [updV, va_up, va_rf]
  · simp [updV, va_up, hq]
/-- a new array of a primitive type -/
theorem r_newa {bc' bs' : Nat} (hX : ev_C G M d X) {at_ : ArrayType} {k N : Nat} {ty : FieldType} {n : Int32} {e0 : (Nat → Int32) ⊕ (Nat → Int64) ⊕ (Nat → Option Nat)} (hd : decode M.2.2.1 pc = .ok (.newarray at_, 2)) (hty : newarray.typeOf at_ = ty) (hAr : Cond.arrayClass ty ∈ ev_tbl) (hk : ev_arrs[k]? = some ty) (hp : ty.isReference = false)
    (he : ∀ G : Ev_G, ev_cnv G (.inl (k, N, e0)) = .inl (G.2.2.1 k, N, (ev_cnv G (.inl (k, N, e0))).elim (fun q => q.2.2) (fun _ => .inl (fun _ => 0))) ∧ vp_cell (G.2.2.1 k) (N, (ev_cnv G (.inl (k, N, e0))).elim (fun q => q.2.2) (fun _ => .inl (fun _ => 0))) = arrV (G.2.2.1 k) N (fun _ => defaultValue ty))
    (hn : ¬ n < 0) (hN : n.toNatClampNeg = N) (hby : N * componentBytes ty ≤ 536870912) (hc1 : 1 + bc' ≤ bc) (hs1 : N + bs' ≤ bs) (kk : 100 ≤ w.1 → w.2 w.1 = none → ev_W G M X bc' bs' (pc + 2) ls (.ref w.1 :: st) (ev_new w (.inl (k, N, e0)))) : ev_W G M X bc bs pc ls (.int n :: st) w := by
  obtain ⟨hx, hb, hm, ho, ht, hT, hi, hz, hzs, hdf, hdl, hlk⟩ := hX
  intro H locs a cells slots hH hl hL hc hs
  subst hty
  refine va_newaK hx hb (ht _ hAr) rfl hd rfl hn hN hby (by omega) (by omega) rfl fun H1 cA e1 z1 o1 hA2 hNm => ?_
  have hRA := (hT.1.2 k _ (ev_tys_at hk)).2
  have hcA : cA = G.2.2.1 k := by
    have h5 : X.2.2.2.1.vm.findClass ("[" ++ (newarray.typeOf at_).toString) = some (G.2.2.1 k) := by
      revert hRA hp
      cases newarray.typeOf at_ <;> intro hp hRA <;> first | exact hRA | (simp [FieldType.isReference] at hp)
    exact Option.some.inj (hNm.symm.trans h5)
  subst hcA
  have h9 := kk hH.lo (hH.fresh hH.lo) H1 locs a (cells + 1) (slots + N) (hH.new (c := .inl (k, N, e0)) (by
    obtain ⟨q1, q2⟩ := he G
    rw [q1]
    show H1[_]? = some (vp_cell _ _)
    rw [q2]; exact e1) z1 o1) hl hL (by omega) (by omega)
  rw [List.map_cons, show ev_mv G (.ref w.1) = .ref H.size by show Value.ref _ = _; rw [ev_rho_next hH]] at h9
  exact h9
/-- a new array of references -/
theorem r_newq {bc' bs' : Nat} (hX : ev_C G M d X) {index k N : Nat} {C : String} {n : Int32} (hd : decode M.2.2.1 pc = .ok (.anewarray index, 3)) (hcl : Cond.classLink M.1 index C ∈ ev_tbl) (hov : C ∈ ev_over) (hk : ev_arrs[k]? = some (.object C)) (hn : ¬ n < 0) (hN : n.toNatClampNeg = N) (hby : N * 4 ≤ 536870912) (hc1 : 1 + bc' ≤ bc) (hs1 : N + bs' ≤ bs) (kk : 100 ≤ w.1 → w.2 w.1 = none → ev_W G M X bc' bs' (pc + 3) ls (.ref w.1 :: st) (ev_new w (.inl (k, N, .inr (.inr (fun _ => none)))))) : ev_W G M X bc bs pc ls (.int n :: st) w := by
  obtain ⟨hx, hb, hm, ho, ht, hT, hi, hz, hzs, hdf, hdl, hlk⟩ := hX
  intro H locs a cells slots hH hl hL hc hs
  subst hN
  refine W.anew hx hb ho (ht _ hcl) (va_AO.use (hT.2.2.2.2.2 C hov)) rfl hd rfl hn hby (by omega) (by omega) fun cA kA comp f1 f2 f3 f4 => ?_
  generalize hH1 : H.push ({ cls := cA, slots := Array.replicate n.toNatClampNeg .null, vm := .none } : Cell) = H1
  have z1 : H1.size = H.size + 1 := by rw [← hH1, Array.size_push]
  have e1 : H1[H.size]? = some (arrV cA n.toNatClampNeg (fun _ => .null)) := by rw [← hH1, Array.getElem?_push_size, ← arrV_new]
  have o1 : ∀ q : Nat, q < H.size → H1[q]? = H[q]? := fun q hq => by rw [← hH1, Array.getElem?_push, if_neg (Nat.ne_of_lt hq)]
  obtain ⟨kA', comp', k1, k2, k3, k4⟩ := (hT.1.2 k _ (ev_tys_at hk)).2
  have hcA : cA = G.2.2.1 k := Option.some.inj (f1.symm.trans k4)
  subst hcA
  have h9 := kk hH.lo (hH.fresh hH.lo) H1 locs a (cells + 1) (slots + n.toNatClampNeg) (hH.new (c := .inl (k, n.toNatClampNeg, .inr (.inr (fun _ => none)))) (by
    show H1[_]? = some (vp_cell _ _)
    rw [vp_cell_q]; exact e1) z1 o1) hl hL (by omega) (by omega)
  rw [List.map_cons, show ev_mv G (.ref w.1) = .ref H.size by show Value.ref _ = _; rw [ev_rho_next hH]] at h9
  exact h9
/-- a new object: the class that an instruction of own names -/
def ev_N (own : String) (index ci N : Nat) (fs : List Value) : Prop := ∃ (C : String) (T : u_T) (ty : Nat → FieldType), vwCl[ci]? = some (C, T, N) ∧ (∀ w ∈ u_ws C T N, w ∈ ev_tbl) ∧ (∀ k, k < N → parseFieldDescriptor (T k).2.2.1 = some (ty k)) ∧ Cond.classLink own index C ∈ ev_tbl ∧ Cond.instantiable C N ∈ ev_tbl ∧ Cond.initialized C ∈ ev_tbl ∧ (∀ j, j < N → defaultValue (ty j) = vp_V fs j) ∧ ∀ G : Ev_G, fs.map (ev_mv G) = fs
theorem r_new {bc' bs' : Nat} (hX : ev_C G M d X) {index ci N : Nat} {fs : List Value} (hd : decode M.2.2.1 pc = .ok (.new index, 3)) (hN : ev_N M.1 index ci N fs) (hc1 : 1 + bc' ≤ bc) (hs1 : N + bs' ≤ bs) (kk : 100 ≤ w.1 → w.2 w.1 = none → ev_W G M X bc' bs' (pc + 3) ls (.ref w.1 :: st) (ev_new w (.inr (ci, fs)))) : ev_W G M X bc bs pc ls st w := by
  obtain ⟨hx, hb, hm, ho, ht, hT, hi, hz, hzs, hdf, hdl, hlk⟩ := hX
  intro H locs a cells slots hH hl hL hc hs
  obtain ⟨C, T, ty, h1, h2, h3, h4, h5, h6, h7, h8⟩ := hN
  have hKn := hT.1.1 ci _ h1
  refine W.newcK hx hb ho (ht _ h4) (ht _ h5) (ht _ h6) rfl hd (by omega) (by omega) hKn.2.1 rfl fun H1 kC hkC e1 z1 o1 => ?_
  have h9 := kk hH.lo (hH.fresh hH.lo) H1 locs a (cells + 1) (slots + N) (hH.new (c := .inr (ci, fs)) (by
    refine ⟨_, h1, (u_born ty ht h2 hKn hkC e1 h3).to (fun j hj => ?_)⟩
    rw [h7 j hj]
    show _ = vp_V (fs.map (ev_mv G)) j
    rw [h8]) z1 o1) hl hL (by omega) (by omega)
  rw [List.map_cons, show ev_mv G (.ref w.1) = .ref H.size by show Value.ref _ = _; rw [ev_rho_next hH]] at h9
  exact h9
/-- statics: the enum's constants, and the array of them -/
theorem ev_S0 {H : Heap} {locs : List Loc} (hH : ev_H vwCl G w H) : ∀ q : Nat, q < G.2.2.2.2.size → ¬ ev_A G q → H[q]? = G.2.2.2.2[q]? := fun q h _ => hH.1 q h
theorem r_getsE (hX : ev_C G M d X) {index i : Nat} (hd : decode M.2.2.1 pc = .ok (.getstatic index, 3)) (hi17 : i < 17) (hl0 : Cond.fieldLink M.1 index "ElementFiles$Sort" (ev_nm.getD i "") "LElementFiles$Sort;" ∈ ev_tbl) (kk : ev_W G M X bc bs (pc + 3) ls (.ref i :: st) w) : ev_W G M X bc bs pc ls st w := by
  obtain ⟨hx, hb, hm, ho, ht, hT, hi, hz, hzs, hdf, hdl, hlk⟩ := hX
  intro H locs a cells slots hH hl hL hc hs
  obtain ⟨cf, kf, fi, f, a1, cell, h1, h2, h3, h4, h5, h6, h7, h8⟩ := (hT.2.1.1 i hi17).1
  refine W.gets hx hb ho (ht _ hl0) h1 h2 h3 h4 (by rw [hH.1 a1 (Array.getElem?_eq_some_iff.mp h5).1]; exact h5) (fun e => by rw [e] at h6; cases h6) h7 rfl hd ?_
  have h9 := kk H locs a cells slots hH hl hL hc hs
  rw [List.map_cons, show ev_mv G (.ref i) = .ref (G.2.2.2.1 i) by show Value.ref _ = _; rw [ev_rho, if_pos (by omega)]] at h9
  exact h9
theorem r_getsA (hX : ev_C G M d X) {index : Nat} (hd : decode M.2.2.1 pc = .ok (.getstatic index, 3)) (hl0 : Cond.fieldLink M.1 index "ElementFiles$Sort" "ALL" "[LElementFiles$Sort;" ∈ ev_tbl) (kk : ev_W G M X bc bs (pc + 3) ls (.ref 17 :: st) w) : ev_W G M X bc bs pc ls st w := by
  obtain ⟨hx, hb, hm, ho, ht, hT, hi, hz, hzs, hdf, hdl, hlk⟩ := hX
  intro H locs a cells slots hH hl hL hc hs
  obtain ⟨cf, kf, fi, f, a1, cell, h1, h2, h3, h4, h5, h6, h7, h8⟩ := hT.2.2.1
  refine W.gets hx hb ho (ht _ hl0) h1 h2 h3 h4 (by rw [hH.1 a1 (Array.getElem?_eq_some_iff.mp h5).1]; exact h5) (fun e => by rw [e] at h6; cases h6) h7 rfl hd ?_
  have h9 := kk H locs a cells slots hH hl hL hc hs
  rw [List.map_cons, show ev_mv G (.ref 17) = .ref (G.2.2.2.1 17) by show Value.ref _ = _; rw [ev_rho, if_pos (by omega)]] at h9
  exact h9
theorem r_getE (hX : ev_C G M d X) {index i : Nat} {q : String × String × String × List Int32} (hd : decode M.2.2.1 pc = .ok (.getfield index, 3)) (hi17 : i < 17) (hq : q ∈ ev_fl) (hl0 : Cond.fieldLink M.1 index q.1 q.2.1 q.2.2.1 ∈ ev_tbl) (kk : ev_W G M X bc bs (pc + 3) ls (.int (q.2.2.2.getD i 0) :: st) w) : ev_W G M X bc bs pc ls (.ref i :: st) w := by
  obtain ⟨hx, hb, hm, ho, ht, hT, hi, hz, hzs, hdf, hdl, hlk⟩ := hX
  intro H locs a cells slots hH hl hL hc hs
  obtain ⟨cf, k, fi, f, cell, h1, h2, h3, h4, h5, h6⟩ := (hT.2.1.1 i hi17).2.2 q hq
  refine W.getf hx hb ho (ht _ hl0) h1 h2 (a := ev_rho G i) (cell := cell) ?_ h4 (v := .int (q.2.2.2.getD i 0)) h5 rfl rfl hd (kk H locs a cells slots hH hl hL hc hs)
  rw [ev_rho, if_pos (by omega), hH.1 _ (Array.getElem?_eq_some_iff.mp h3).1]
  exact h3
theorem r_aaldA (hX : ev_C G M d X) {i : Int32} (hd : decode M.2.2.1 pc = .ok (.aaload, 1)) (hin : vp_in i 17) (kk : ev_W G M X bc bs (pc + 1) ls (.ref i.toNatClampNeg :: st) w) : ev_W G M X bc bs pc ls (.int i :: .ref 17 :: st) w := by
  obtain ⟨hx, hb, hm, ho, ht, hT, hi, hz, hzs, hdf, hdl, hlk⟩ := hX
  intro H locs a cells slots hH hl hL hc hs
  have hlt : i.toNatClampNeg < 17 := Nat.not_le.mp fun q => hin (Or.inr q)
  obtain ⟨cell, h1, h2, h3, h4, h5, h6, h7⟩ := hT.2.2.2.1
  refine W.aald (v := .ref (G.2.2.2.1 i.toNatClampNeg)) (ty := .object "ElementFiles$Sort") (a := ev_rho G 17) (cell := cell) hx hb ?_ h2 rfl h3 (fun q => hin (q.imp_right (fun z => Nat.le_trans h4 z))) (h6 _ hlt) rfl rfl hd ?_
  · rw [ev_rho, if_pos (by omega), hH.1 _ (Array.getElem?_eq_some_iff.mp h1).1]
    exact h1
  · have h9 := kk H locs a cells slots hH hl hL hc hs
    rw [List.map_cons, show ev_mv G (.ref i.toNatClampNeg) = .ref (G.2.2.2.1 i.toNatClampNeg) by show Value.ref _ = _; rw [ev_rho, if_pos (by omega)]] at h9
    exact h9
theorem r_alenA (hX : ev_C G M d X) (hd : decode M.2.2.1 pc = .ok (.arraylength, 1)) (kk : ev_W G M X bc bs (pc + 1) ls (.int 17 :: st) w) : ev_W G M X bc bs pc ls (.ref 17 :: st) w := by
  obtain ⟨hx, hb, hm, ho, ht, hT, hi, hz, hzs, hdf, hdl, hlk⟩ := hX
  intro H locs a cells slots hH hl hL hc hs
  obtain ⟨cell, h1, h2, h3, h4, h5, h6, h7⟩ := hT.2.2.2.1
  refine W.alen (n := 17) (ty := .object "ElementFiles$Sort") (a := ev_rho G 17) (cell := cell) hx hb ?_ h2 h5 rfl rfl hd (kk H locs a cells slots hH hl hL hc hs)
  rw [ev_rho, if_pos (by omega), hH.1 _ (Array.getElem?_eq_some_iff.mp h1).1]
  exact h1
/-! returns -/
variable {mc ms : Nat} {Q : Option Value → Ev_W → Prop}
theorem r_iret (hX : ev_C G M d X) (hR : ev_R G M mc ms Q X) {ty : FieldType} {v : Int32} (hd : decode M.2.2.1 pc = .ok (.ireturn, 1)) (hr : M.2.2.2.2 = some ty) (hn : narrow ty (.int v) = .int v) (hq : Q (some (.int v)) w) : ev_W G M X bc bs pc ls [.int v] w := by
  obtain ⟨hx, hb, hm, ho, ht, hT, hi, hz, hzs, hdf, hdl, hlk⟩ := hX
  obtain ⟨r1, r2, r3, r4, r5⟩ := hR
  intro H locs a cells slots hH hl hL hc hs
  rw [r1]
  refine W.widen (k := mc) (n := ms) (by omega) (by omega) ?_
  exact W.zret hx hb (r4.trans hr) hn (fun t h1 h2 => ⟨some (.int v), w, rfl, by rw [h1]; exact hH, hq⟩) hl hd hlk
theorem r_lret (hX : ev_C G M d X) (hR : ev_R G M mc ms Q X) {v : Int64} (hd : decode M.2.2.1 pc = .ok (.lreturn, 1)) (hr : M.2.2.2.2 = some .long) (hq : Q (some (.long v)) w) : ev_W G M X bc bs pc ls [.long v] w := by
  obtain ⟨hx, hb, hm, ho, ht, hT, hi, hz, hzs, hdf, hdl, hlk⟩ := hX
  obtain ⟨r1, r2, r3, r4, r5⟩ := hR
  intro H locs a cells slots hH hl hL hc hs
  rw [r1]
  refine W.widen (k := mc) (n := ms) (by omega) (by omega) ?_
  exact W.lret hx hb (r4.trans hr) (fun t h1 h2 => ⟨some (.long v), w, rfl, by rw [h1]; exact hH, hq⟩) hl hd hlk
theorem r_aret (hX : ev_C G M d X) (hR : ev_R G M mc ms Q X) {rt : FieldType} {o : Option Nat} (hd : decode M.2.2.1 pc = .ok (.areturn, 1)) (hr : M.2.2.2.2 = some rt) (hrt : (∃ n, rt = .object n) ∨ ∃ t, rt = .array t) (hq : Q (some (va_rf o)) w) : ev_W G M X bc bs pc ls [va_rf o] w := by
  obtain ⟨hx, hb, hm, ho, ht, hT, hi, hz, hzs, hdf, hdl, hlk⟩ := hX
  obtain ⟨r1, r2, r3, r4, r5⟩ := hR
  intro H locs a cells slots hH hl hL hc hs
  rw [r1]
  refine W.widen (k := mc) (n := ms) (by omega) (by omega) ?_
  exact W.aret hx hb (r4.trans hr) hrt (v := ev_mv G (va_rf o)) (by rw [ev_mv_rf]; exact va_rf_or _) (fun t h1 h2 => ⟨some (va_rf o), w, rfl, by rw [h1]; exact hH, hq⟩) hl hd hlk
theorem r_vret (hX : ev_C G M d X) (hR : ev_R G M mc ms Q X) (hd : decode M.2.2.1 pc = .ok (.return_, 1)) (hr : M.2.2.2.2 = none) (hq : Q none w) : ev_W G M X bc bs pc ls [] w := by
  obtain ⟨hx, hb, hm, ho, ht, hT, hi, hz, hzs, hdf, hdl, hlk⟩ := hX
  obtain ⟨r1, r2, r3, r4, r5⟩ := hR
  intro H locs a cells slots hH hl hL hc hs
  rw [r1]
  refine W.widen (k := mc) (n := ms) (by omega) (by omega) ?_
  exact W.vret hx hb (r4.trans hr) (fun t h1 h2 => ⟨none, w, rfl, by rw [h1]; exact hH, hq⟩) hl hd hlk
/-! calls -/
variable {N : Ev_M} {d' : Nat} {as rest : List Value}
theorem ev_blind {as : List Value} {w : Ev_W} : FrameBlind (va_Pc (as.map (ev_mv G)) (fun U => ev_H vwCl G w U.heap ∧ ev_T G U ∧ ev_inj G)) := fun a U g mk q => ⟨q.1, q.2.1, ev_T.same (u := U) (U := U.calling g mk a) rfl q.2.2.1, q.2.2.2⟩
theorem ev_goodT (hM : ev_MD N) : GoodIn ev_tbl (ev_ws N) := fun w hw => by
  rcases List.mem_cons.mp hw with h | h
  · subst h; exact ⟨hM.2.2.1, ev_tbl_ok hM.2.2.1⟩
  · exact ⟨h, ev_tbl_ok h⟩
theorem ev_rmR (hX : ev_C G M d X) (hM : ev_MD N) (hdd : d' < d) : (ev_rm d' mc ms).frames + 1 ≤ X.2.2.1.frames ∧ 8 + (N.2.2.2.1 + 11) + (ev_rm d' mc ms).locals ≤ X.2.2.1.locals := by
  obtain ⟨hx, hb, hm, ho, ht, hT, hi, hz, hzs, hdf, hdl, hlk⟩ := hX
  have h4 := hM.2.2.2
  refine ⟨by show d' + 1 ≤ _; omega, ?_⟩
  show 8 + (N.2.2.2.1 + 11) + d' * 38 ≤ _
  have : (d' + 1) * 38 ≤ d * 38 := Nat.mul_le_mul_right _ hdd
  omega
theorem ev_back {bc' bs' : Nat} {H : Heap} {locs : List Loc} {a : Array Slot} {cells slots : Nat} {st0 : List Value} {aa : Array Value}
    (hr : va_Run X.1 G.1 X.2.1 X.2.2.1 X.2.2.2.1 X.2.2.2.2.1 X.2.2.2.2.2.1 X.2.2.2.2.2.2.1 X.2.2.2.2.2.2.2.1 X.2.2.2.2.2.2.2.2.1 H locs cells slots mc ms (F0 X.2.2.2.2.1 pc a st0) (rest.map (ev_mv G)) (ev_Q G Q aa) (fun q => G.2.2.2.2.size ≤ q))
    (hl : ∀ q ∈ locs, G.2.2.2.2.size ≤ q.base) (hL : ev_L G M.2.2.2.1 ls a) (hc : cells + (mc + bc') ≤ X.2.2.1.cells) (hs : slots + (ms + bs') ≤ X.2.2.1.slots)
    (kk : ∀ (v : Option Value) (w' : Ev_W), Q v w' → ev_W G M X bc' bs' (pc + 3) ls (v.toList ++ rest) w') :
    W X.1 G.1 X.2.1 X.2.2.1 X.2.2.2.1 X.2.2.2.2.1 X.2.2.2.2.2.1 X.2.2.2.2.2.2.1 X.2.2.2.2.2.2.2.1 X.2.2.2.2.2.2.2.2.1 H locs cells slots X.2.2.2.2.2.2.2.2.2 (F0 X.2.2.2.2.1 pc a st0) := by
  intro T hT X0
  obtain ⟨v, st₀, t, T', L, h0, X', hL', e1, e2, ⟨v', w', ev, hH', hq⟩, stp⟩ := hr T hT X0
  have ev' : v = v'.map (ev_mv G) := Outcome.returned.inj ev
  subst ev'
  have h9 := kk v' w' hq T'.heap (locs ++ L) a (cells + mc) (slots + ms) (by rw [e1]; exact hH') (fun q hq' => by
    rcases List.mem_append.mp hq' with h | h
    · exact hl q h
    · exact hL' q h) hL (by omega) (by omega)
  obtain ⟨t2, a1, b1⟩ := h9 T' rfl X'
  refine ⟨t2, stp t2 ?_, b1⟩
  rw [List.map_append] at a1
  cases v' with
  | none => exact a1
  | some z => exact a1
/-- what a call of an instance method needs -/
def ev_LV (own : String) (index : Nat) (N : Ev_M) (n : Nat) : Prop := ev_MD N ∧ Cond.methodLink own index N.2.1 ∈ ev_tbl ∧ Cond.instanceMethod N.2.1 ∈ ev_tbl ∧ Cond.selects N.1 N.2.1 N.2.1 ∈ ev_tbl ∧ Cond.initialized N.1 ∈ ev_tbl ∧ N.2.1.cls ≠ "java/lang/invoke/MethodHandle" ∧ N.2.1.cls ≠ "java/lang/invoke/VarHandle" ∧ (parseMethodDescriptor N.2.1.desc).map (fun d => d.parameters.length) = some n
theorem r_callV (hX : ev_C G M d X) {index ci b n : Nat} {fs : List Value} (hd : decode M.2.2.1 pc = .ok (.invokevirtual index, 3)) (hLk : ev_LV M.1 index N n) (hw : w.2 b = some (.inr (ci, fs))) (hci : (vwCl[ci]?).map (fun q => q.1) = some N.1) (hn : as.length = n) (hro : (rest.map fun v => v.category).sum ≤ 8) (hdd : d' < d) (bc' bs' : Nat) (hc1 : mc + bc' ≤ bc) (hs1 : ms + bs' ≤ bs)
    (hM : ev_Met G N d' mc ms (.ref b :: as) w Q) (kk : ∀ (v : Option Value) (w' : Ev_W), Q v w' → ev_W G M X bc' bs' (pc + 3) ls (v.toList ++ rest) w') : ev_W G M X bc bs pc ls (as.reverse ++ .ref b :: rest) w := by
  have hX0 := hX
  obtain ⟨hx, hb, hm, ho, ht, hT, hi, hz, hzs, hdf, hdl, hlk⟩ := hX
  intro H locs a cells slots hH hl hL hc hs
  obtain ⟨k1, k2, k3, k4, k5, k6, k7, k8⟩ := hLk
  obtain ⟨cq, hcq, hcn⟩ : ∃ q, vwCl[ci]? = some q ∧ q.1 = N.1 := by
    cases h : vwCl[ci]? with
    | none => rw [h] at hci; cases hci
    | some q => rw [h] at hci; exact ⟨q, rfl, Option.some.inj hci⟩
  have hrec := va_recv (q0 := 0) hT.1 (ev_one (hH.2.2.2 b _ hw)) hcq rfl
  rw [hcn] at hrec
  refine ev_back (bc' := bc') (bs' := bs') (va_runV (As := as.map (ev_mv G)) (rest := rest.map (ev_mv G)) (b := ev_rho G b) (C := N.1) ⟨hx, hb, hm, ho, ht⟩ hM (cwV n ht (ws' := ev_tbl) (fun w hw => ?_) rfl rfl rfl ⟨k1.2.1, k6, k7, k8⟩ (ev_rmR hX0 k1 hdd)) ⟨ev_blind, hrec, fun U hU hW => ⟨rfl, by rw [hU]; exact hH, hT.warm hW, hi⟩⟩ rfl (by rw [List.length_map]; exact hn) hL.1 (by simp [ev_mv]) (lv_room (by rw [List.map_map]; simpa [Function.comp_def, ev_mv_cat] using hro)) hd ⟨by omega, by omega⟩) hl hL (by omega) (by omega) kk
  unfold wsV at hw
  rcases List.mem_append.mp hw with h | h
  · have h2 : w ∈ ev_tbl := by
      simp only [List.mem_cons, List.not_mem_nil, or_false] at h
      rcases h with h | h | h | h <;> (rw [h]; assumption)
    exact ⟨h2, ev_tbl_ok h2⟩
  · exact ev_goodT k1 w h
def ev_LS (own : String) (index : Nat) (N : Ev_M) (n : Nat) : Prop := ev_MD N ∧ Cond.methodLink own index N.2.1 ∈ ev_tbl ∧ Cond.static N.2.1 ∈ ev_tbl ∧ Cond.initialized N.2.1.cls ∈ ev_tbl ∧ N.2.1.cls ≠ "java/lang/invoke/MethodHandle" ∧ N.2.1.cls ≠ "java/lang/invoke/VarHandle" ∧ (parseMethodDescriptor N.2.1.desc).map (fun d => d.parameters.length) = some n
theorem r_callS (hX : ev_C G M d X) {index n : Nat} (hd : decode M.2.2.1 pc = .ok (.invokestatic index, 3)) (hLk : ev_LS M.1 index N n) (hn : as.length = n) (hro : (rest.map fun v => v.category).sum ≤ 8) (hdd : d' < d) (bc' bs' : Nat) (hc1 : mc + bc' ≤ bc) (hs1 : ms + bs' ≤ bs)
    (hM : ev_Met G N d' mc ms as w Q) (kk : ∀ (v : Option Value) (w' : Ev_W), Q v w' → ev_W G M X bc' bs' (pc + 3) ls (v.toList ++ rest) w') : ev_W G M X bc bs pc ls (as.reverse ++ rest) w := by
  have hX0 := hX
  obtain ⟨hx, hb, hm, ho, ht, hT, hi, hz, hzs, hdf, hdl, hlk⟩ := hX
  intro H locs a cells slots hH hl hL hc hs
  obtain ⟨k1, k2, k3, k5, k6, k7, k8⟩ := hLk
  refine ev_back (bc' := bc') (bs' := bs') (va_runS (As := as.map (ev_mv G)) (rest := rest.map (ev_mv G)) ⟨hx, hb, hm, ho, ht⟩ hM (va_cwS n ht (ws' := ev_tbl) (fun w hw => ?_) rfl rfl rfl ⟨k6, k7, k8⟩ (ev_rmR hX0 k1 hdd)) ⟨ev_blind, fun U hU hW => ⟨rfl, by rw [hU]; exact hH, hT.warm hW, hi⟩⟩ rfl (by rw [List.length_map]; exact hn) hL.1 (by simp) (lv_room (by rw [List.map_map]; simpa [Function.comp_def, ev_mv_cat] using hro)) hd ⟨by omega, by omega⟩) hl hL (by omega) (by omega) kk
  unfold va_wsS at hw
  rcases List.mem_append.mp hw with h | h
  · have h2 : w ∈ ev_tbl := by
      simp only [List.mem_cons, List.not_mem_nil, or_false] at h
      rcases h with h | h | h <;> (rw [h]; assumption)
    exact ⟨h2, ev_tbl_ok h2⟩
  · exact ev_goodT k1 w h
def ev_LI (own : String) (index : Nat) (N : Ev_M) (n : Nat) : Prop := ev_MD N ∧ N.2.2.2.2 = none ∧ Cond.methodLink own index N.2.1 ∈ ev_tbl ∧ Cond.instanceMethod N.2.1 ∈ ev_tbl ∧ Cond.initialized N.2.1.cls ∈ ev_tbl ∧ N.2.1.name = "<init>" ∧ N.2.1.cls ≠ "java/lang/invoke/MethodHandle" ∧ N.2.1.cls ≠ "java/lang/invoke/VarHandle" ∧ (parseMethodDescriptor N.2.1.desc).map (fun d => d.parameters.length) = some n
theorem r_callI (hX : ev_C G M d X) {index b n : Nat} (hd : decode M.2.2.1 pc = .ok (.invokespecial index, 3)) (hLk : ev_LI M.1 index N n) (hn : as.length = n) (hro : (rest.map fun v => v.category).sum ≤ 8) (hdd : d' < d) (bc' bs' : Nat) (hc1 : mc + bc' ≤ bc) (hs1 : ms + bs' ≤ bs)
    (hM : ev_Met G N d' mc ms (.ref b :: as) w Q) (kk : ∀ (v : Option Value) (w' : Ev_W), Q v w' → ev_W G M X bc' bs' (pc + 3) ls (v.toList ++ rest) w') : ev_W G M X bc bs pc ls (as.reverse ++ .ref b :: rest) w := by
  have hX0 := hX
  obtain ⟨hx, hb, hm, ho, ht, hT, hi, hz, hzs, hdf, hdl, hlk⟩ := hX
  intro H locs a cells slots hH hl hL hc hs
  obtain ⟨k1, k9, k2, k3, k5, k4, k6, k7, k8⟩ := hLk
  have hws : ev_ws N = Cond.code N.2.1 N.2.2.1 N.2.2.2.1 none :: ev_tbl := by unfold ev_ws; rw [k9]
  exact ev_back (bc' := bc') (bs' := bs') (va_runI (As := as.map (ev_mv G)) (rest := rest.map (ev_mv G)) (b := ev_rho G b) ⟨hx, hb, hm, ho, ht⟩ hM (cwI n ht (ev_goodT k1) hws rfl rfl (ht _ k5) (ht _ k2) (ht _ k3) k4 ⟨k6, k7, k8⟩ (ev_rmR hX0 k1 hdd)) ⟨ev_blind, fun U hU hW => ⟨rfl, by rw [hU]; exact hH, hT.warm hW, hi⟩⟩ rfl (by rw [List.length_map]; exact hn) hL.1 (by simp [ev_mv]) (lv_room (by rw [List.map_map]; simpa [Function.comp_def, ev_mv_cat] using hro)) hd ⟨by omega, by omega⟩) hl hL (by omega) (by omega) kk
/-- calls of a nest mate's private methods -/
def ev_LSN (own : String) (index : Nat) (host : String) (N : Ev_M) (n : Nat) : Prop := ev_MD N ∧ Cond.methodLinkNest own index N.2.1 host ∈ ev_nest ∧ Cond.static N.2.1 ∈ ev_tbl ∧ Cond.initialized N.2.1.cls ∈ ev_tbl ∧ N.2.1.cls ≠ "java/lang/invoke/MethodHandle" ∧ N.2.1.cls ≠ "java/lang/invoke/VarHandle" ∧ (parseMethodDescriptor N.2.1.desc).map (fun d => d.parameters.length) = some n
theorem r_callSN (hX : ev_C G M d X) {index n : Nat} {host : String} (hd : decode M.2.2.1 pc = .ok (.invokestatic index, 3)) (hLk : ev_LSN M.1 index host N n) (hn : as.length = n) (hro : (rest.map fun v => v.category).sum ≤ 8) (hdd : d' < d) (bc' bs' : Nat) (hc1 : mc + bc' ≤ bc) (hs1 : ms + bs' ≤ bs)
    (hM : ev_Met G N d' mc ms as w Q) (kk : ∀ (v : Option Value) (w' : Ev_W), Q v w' → ev_W G M X bc' bs' (pc + 3) ls (v.toList ++ rest) w') : ev_W G M X bc bs pc ls (as.reverse ++ rest) w := by
  have hX0 := hX
  obtain ⟨hx, hb, hm, ho, ht, hT, hi, hz, hzs, hdf, hdl, hlk⟩ := hX
  intro H locs a cells slots hH hl hL hc hs
  obtain ⟨k1, k2, k3, k5, k6, k7, k8⟩ := hLk
  exact ev_back (bc' := bc') (bs' := bs') (va_runSN (As := as.map (ev_mv G)) (rest := rest.map (ev_mv G)) ⟨hx, hb, hm, ho, ht⟩ hM ⟨va_cnB n ht (ev_goodT k1) rfl rfl rfl (hT.2.2.2.2.1 _ k2) (ht _ k5) ⟨k6, k7, k8⟩ (ev_rmR hX0 k1 hdd), ht _ k3, trivial⟩ ⟨ev_blind, fun U hU hW => ⟨rfl, by rw [hU]; exact hH, hT.warm hW, hi⟩⟩ rfl (by rw [List.length_map]; exact hn) hL.1 (by simp) (lv_room (by rw [List.map_map]; simpa [Function.comp_def, ev_mv_cat] using hro)) hd ⟨by omega, by omega⟩) hl hL (by omega) (by omega) kk
def ev_LIN (own : String) (index : Nat) (host : String) (N : Ev_M) (n : Nat) : Prop := ev_MD N ∧ N.2.2.2.2 = none ∧ Cond.methodLinkNest own index N.2.1 host ∈ ev_nest ∧ Cond.instanceMethod N.2.1 ∈ ev_tbl ∧ Cond.initialized N.2.1.cls ∈ ev_tbl ∧ N.2.1.name = "<init>" ∧ N.2.1.cls ≠ "java/lang/invoke/MethodHandle" ∧ N.2.1.cls ≠ "java/lang/invoke/VarHandle" ∧ (parseMethodDescriptor N.2.1.desc).map (fun d => d.parameters.length) = some n
theorem r_callIN (hX : ev_C G M d X) {index b n : Nat} {host : String} (hd : decode M.2.2.1 pc = .ok (.invokespecial index, 3)) (hLk : ev_LIN M.1 index host N n) (hn : as.length = n) (hro : (rest.map fun v => v.category).sum ≤ 8) (hdd : d' < d) (bc' bs' : Nat) (hc1 : mc + bc' ≤ bc) (hs1 : ms + bs' ≤ bs)
    (hM : ev_Met G N d' mc ms (.ref b :: as) w Q) (kk : ∀ (v : Option Value) (w' : Ev_W), Q v w' → ev_W G M X bc' bs' (pc + 3) ls (v.toList ++ rest) w') : ev_W G M X bc bs pc ls (as.reverse ++ .ref b :: rest) w := by
  have hX0 := hX
  obtain ⟨hx, hb, hm, ho, ht, hT, hi, hz, hzs, hdf, hdl, hlk⟩ := hX
  intro H locs a cells slots hH hl hL hc hs
  obtain ⟨k1, k9, k2, k3, k5, k4, k6, k7, k8⟩ := hLk
  have hws : ev_ws N = Cond.code N.2.1 N.2.2.1 N.2.2.2.1 none :: ev_tbl := by unfold ev_ws; rw [k9]
  exact ev_back (bc' := bc') (bs' := bs') (va_runIN (As := as.map (ev_mv G)) (rest := rest.map (ev_mv G)) (b := ev_rho G b) ⟨hx, hb, hm, ho, ht⟩ hM ⟨va_cnB n ht (ev_goodT k1) hws rfl rfl (hT.2.2.2.2.1 _ k2) (ht _ k5) ⟨k6, k7, k8⟩ (ev_rmR hX0 k1 hdd), k4, ht _ k3⟩ ⟨ev_blind, fun U hU hW => ⟨rfl, by rw [hU]; exact hH, hT.warm hW, hi⟩⟩ rfl (by rw [List.length_map]; exact hn) hL.1 (by simp [ev_mv]) (lv_room (by rw [List.map_map]; simpa [Function.comp_def, ev_mv_cat] using hro)) hd ⟨by omega, by omega⟩) hl hL (by omega) (by omega) kk
/-- a method of one of the enum's constants -/
theorem r_callVE (hX : ev_C G M d X) {index b n : Nat} (hd : decode M.2.2.1 pc = .ok (.invokevirtual index, 3)) (hLk : ev_LV M.1 index N n) (hb17 : b < 17) (hci : N.1 = "ElementFiles$Sort") (hn : as.length = n) (hro : (rest.map fun v => v.category).sum ≤ 8) (hdd : d' < d) (bc' bs' : Nat) (hc1 : mc + bc' ≤ bc) (hs1 : ms + bs' ≤ bs)
    (hM : ev_Met G N d' mc ms (.ref b :: as) w Q) (kk : ∀ (v : Option Value) (w' : Ev_W), Q v w' → ev_W G M X bc' bs' (pc + 3) ls (v.toList ++ rest) w') : ev_W G M X bc bs pc ls (as.reverse ++ .ref b :: rest) w := by
  have hX0 := hX
  obtain ⟨hx, hb, hm, ho, ht, hT, hi, hz, hzs, hdf, hdl, hlk⟩ := hX
  intro H locs a cells slots hH hl hL hc hs
  obtain ⟨k1, k2, k3, k4, k5, k6, k7, k8⟩ := hLk
  obtain ⟨cell, g1, g2, g3, -⟩ := (hT.2.1.1 b hb17).2.1
  have hrec : ∃ cell : Cell, H[ev_rho G b]? = some cell ∧ cell.vm.isStatics = false ∧ X.2.2.2.1.vm.findClass N.1 = some cell.cls := by
    refine ⟨cell, ?_, g2, by rw [hci]; exact g3⟩
    rw [ev_rho, if_pos (by omega), hH.1 _ (Array.getElem?_eq_some_iff.mp g1).1]
    exact g1
  refine ev_back (bc' := bc') (bs' := bs') (va_runV (As := as.map (ev_mv G)) (rest := rest.map (ev_mv G)) (b := ev_rho G b) (C := N.1) ⟨hx, hb, hm, ho, ht⟩ hM (cwV n ht (ws' := ev_tbl) (fun w hw => ?_) rfl rfl rfl ⟨k1.2.1, k6, k7, k8⟩ (ev_rmR hX0 k1 hdd)) ⟨ev_blind, hrec, fun U hU hW => ⟨rfl, by rw [hU]; exact hH, hT.warm hW, hi⟩⟩ rfl (by rw [List.length_map]; exact hn) hL.1 (by simp [ev_mv]) (lv_room (by rw [List.map_map]; simpa [Function.comp_def, ev_mv_cat] using hro)) hd ⟨by omega, by omega⟩) hl hL (by omega) (by omega) kk
  unfold wsV at hw
  rcases List.mem_append.mp hw with h | h
  · have h2 : w ∈ ev_tbl := by
      simp only [List.mem_cons, List.not_mem_nil, or_false] at h
      rcases h with h | h | h | h <;> (rw [h]; assumption)
    exact ⟨h2, ev_tbl_ok h2⟩
  · exact ev_goodT k1 w h
/-- Object.<init> -/
theorem r_objInit (hX : ev_C G M d X) {index r : Nat} (hd : decode M.2.2.1 pc = .ok (.invokespecial index, 3)) (h1 : Cond.methodLink M.1 index Lib.objectInit ∈ ev_tbl) (h2 : Cond.instanceMethod Lib.objectInit ∈ ev_tbl) (h3 : Cond.code Lib.objectInit ⟨#[0xb1]⟩ 1 none ∈ ev_tbl) (hdd : 0 < d) (hro : (st.map fun v => v.category).sum ≤ 8) (kk : ev_W G M X bc bs (pc + 3) ls st w) : ev_W G M X bc bs pc ls (.ref r :: st) w := by
  obtain ⟨hx, hb, hm, ho, ht, hT, hi, hz, hzs, hdf, hdl, hlk⟩ := hX
  intro H locs a cells slots hH hl hL hc hs
  refine W.objInit hx hb ho (ht _ h1) (ht _ h2) (ht _ h3) rfl (by show a.size = _; rw [hm]; exact hL.1) rfl hd (by omega) ?_ (kk H locs a cells slots hH hl hL hc hs)
  have h9 : ((st.map (ev_mv G)).map fun v => v.category).sum ≤ 8 := by rw [List.map_map]; simpa [Function.comp_def, ev_mv_cat] using hro
  have h8 : 2 * (F0 X.2.2.2.2.1 pc a (ev_mv G (.ref r) :: st.map (ev_mv G))).monitorRoom + ((st.map (ev_mv G)).map fun v => v.category).sum ≤ 8 := lv_room h9
  have h7 : 38 ≤ d * 38 := by omega
  show 2 * (F0 X.2.2.2.2.1 pc a (ev_mv G (.ref r) :: st.map (ev_mv G))).monitorRoom + ((st.map (ev_mv G)).map fun v => v.category).sum + 12 ≤ X.2.2.1.locals
  omega
end EvH
