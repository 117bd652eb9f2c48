/-! THE CLAIM OUT OF ONE WALK OF THE LAW'S BODY. Your part is whole_start (and what it stands on); all else here is the same for every law, but numbers. -/
def R_law : String := "ElementFilesLaw"
def lw_P (b : Addr) (xs : List Int32) (args : Array Value) (s : State) : Prop := args = #[.ref b] ∧ s.IntsAt b xs ∧ xs.length ≤ 3072 ∧ (Jvm.Cond.and given_1 narrow_1).before args s = true
def lw_Q (_ : Array Value) (s : State) (o : Outcome) (t : State) : Prop := o = .returned (some (.int 1)) ∧ Framed s o t [] 600000 7302250
def lw_Z (below : List Frame) (a : Array Value) (s : State) : State → Prop := fun t => ∃ o, t.status = .running ∧ Ended t below o ∧ lw_Q a s o t
/-- the law's own end, with 1 on the stack, nothing written that was there before, its room as the claim has it -/
theorem lw_ret {p : Program} {l : Launch} {e : Env} {s : State} {m : MethodId} {below : List Frame} {meth : Method} {c : Code} {b : Nat} (hx : p.tables.exec = Jvm.exec) (hb : c.code = code) (hr : meth.sig.returnType = ret) (hlocks : meth.locks = false) {pc : Nat} {H : Heap} {ls : Array Slot} (hdg : decode code pc = .ok (.ireturn, 1)) : W p l e room_1 s m #[Value.ref b] below meth c H [] 600000 7302250 (lw_Z below #[Value.ref b] s) (F0 m pc ls [.int 1]) := by
  intro T hT X
  obtain ⟨fs, hret, hrun, hended, hW, hframe⟩ := X.leave (v := some (.int 1)) (hlocks := hlocks) (fun h => by rw [hr] at h; cases h)
  have hmeth' : T.vm.method? m = some meth := X.method'
  refine ⟨T.setFrames fs, ?_, .returned (some (.int 1)), hrun, hended, rfl, ⟨_, rfl⟩, hW, hframe⟩
  jvm_step X.here [X.here.top, hx, hb, hdg, hmeth', hr, ret, narrow_b1]
  (try refine ⟨rfl, ?_⟩); (try refine ⟨rfl, ?_⟩)
  first | (intro acts; rw [hret _ acts rfl rfl rfl]) | rw [hret _ _ rfl rfl rfl]
  exact Steps.refl _
/-- what holds at the law's entry: the machine, the code, the tables' words (any of lw_tbl by 'hts w (by decide +kernel)'), the script of L ints xs at the cell b, what the Statement gives of the start (any of its parts by flat_of_before) -/
def lw_At (p : Program) (s : State) (m : MethodId) (meth : Method) (c : Code) (b L : Nat) (xs : Nat → Int32) : Prop :=
  p.tables.exec = Jvm.exec ∧ c.code = code ∧ meth.sig.returnType = ret ∧ c.maxLocals = 4 ∧ s.vm.findClass R_law = some m.cls ∧ (∀ w ∈ lw_tbl, w.before #[Value.ref b] s = true) ∧ va_X b L xs s s.heap ∧ b < s.heap.size ∧ meth.locks = false ∧ (Jvm.Cond.and given_1 narrow_1).before #[Value.ref b] s = true
-- ===== YOUR PART BEGINS =====
theorem st_l : ∀ i, i < ev_nm.length → Cond.laysStatic "ElementFiles$Sort" (ev_nm.getD i "") "LElementFiles$Sort;" ∈ lw_tbl := by decide +kernel
theorem st_la : Cond.laysStatic "ElementFiles$Sort" "ALL" "[LElementFiles$Sort;" ∈ lw_tbl := by decide +kernel
theorem st_i : Cond.initialized "ElementFiles$Sort" ∈ lw_tbl := by decide +kernel
theorem st_x : ∀ i, i < ev_nm.length → Cond.exactly (.static "ElementFiles$Sort" (ev_nm.getD i "") "LElementFiles$Sort;") "ElementFiles$Sort" ∈ flatC (Jvm.Cond.and given_1 narrow_1) := by decide +kernel
theorem st_f : ∀ q ∈ ev_fl, ∀ i, i < ev_nm.length → Cond.eq (.field (.static "ElementFiles$Sort" (ev_nm.getD i "") "LElementFiles$Sort;") q.1 q.2.1 q.2.2.1) (.int (q.2.2.2.getD i 0)) ∈ flatC (Jvm.Cond.and given_1 narrow_1) := by decide +kernel
def st_ps : List (Nat × Nat × Nat) := [(16, 14, 38), (16, 1, 45), (14, 1, 46), (16, 7, 53), (14, 7, 54), (1, 7, 55), (16, 9, 62), (14, 9, 63), (1, 9, 64), (7, 9, 65), (16, 15, 72), (14, 15, 73), (1, 15, 74), (7, 15, 75), (9, 15, 76), (16, 10, 83), (14, 10, 84), (1, 10, 85), (7, 10, 86), (9, 10, 87), (15, 10, 88), (16, 11, 95), (14, 11, 96), (1, 11, 97), (7, 11, 98), (9, 11, 99), (15, 11, 100), (10, 11, 101), (16, 8, 108), (14, 8, 109), (1, 8, 110), (7, 8, 111), (9, 8, 112), (15, 8, 113), (10, 8, 114), (11, 8, 115), (16, 12, 122), (14, 12, 123), (1, 12, 124), (7, 12, 125), (9, 12, 126), (15, 12, 127), (10, 12, 128), (11, 12, 129), (8, 12, 130), (16, 13, 137), (14, 13, 138), (1, 13, 139), (7, 13, 140), (9, 13, 141), (15, 13, 142), (10, 13, 143), (11, 13, 144), (8, 13, 145), (12, 13, 146), (16, 0, 153), (14, 0, 154), (1, 0, 155), (7, 0, 156), (9, 0, 157), (15, 0, 158), (10, 0, 159), (11, 0, 160), (8, 0, 161), (12, 0, 162), (13, 0, 163), (16, 2, 170), (14, 2, 171), (1, 2, 172), (7, 2, 173), (9, 2, 174), (15, 2, 175), (10, 2, 176), (11, 2, 177), (8, 2, 178), (12, 2, 179), (13, 2, 180), (0, 2, 181), (16, 3, 188), (14, 3, 189), (1, 3, 190), (7, 3, 191), (9, 3, 192), (15, 3, 193), (10, 3, 194), (11, 3, 195), (8, 3, 196), (12, 3, 197), (13, 3, 198), (0, 3, 199), (2, 3, 200), (16, 4, 207), (14, 4, 208), (1, 4, 209), (7, 4, 210), (9, 4, 211), (15, 4, 212), (10, 4, 213), (11, 4, 214), (8, 4, 215), (12, 4, 216), (13, 4, 217), (0, 4, 218), (2, 4, 219), (3, 4, 220), (16, 5, 227), (14, 5, 228), (1, 5, 229), (7, 5, 230), (9, 5, 231), (15, 5, 232), (10, 5, 233), (11, 5, 234), (8, 5, 235), (12, 5, 236), (13, 5, 237), (0, 5, 238), (2, 5, 239), (3, 5, 240), (4, 5, 241), (16, 6, 248), (14, 6, 249), (1, 6, 250), (7, 6, 251), (9, 6, 252), (15, 6, 253), (10, 6, 254), (11, 6, 255), (8, 6, 256), (12, 6, 257), (13, 6, 258), (0, 6, 259), (2, 6, 260), (3, 6, 261), (4, 6, 262), (5, 6, 263)]
theorem st_p : ∀ q ∈ st_ps, (flatC (Jvm.Cond.and given_1 narrow_1))[q.2.2]? = some (Cond.not (.eq (.static "ElementFiles$Sort" (ev_nm.getD q.1 "") "LElementFiles$Sort;") (.static "ElementFiles$Sort" (ev_nm.getD q.2.1 "") "LElementFiles$Sort;"))) := by decide +kernel
theorem st_c : ∀ i, i < 17 → ∀ j, j < 17 → i ≠ j → (st_ps.any (fun q => q.1 == i && q.2.1 == j)) = true ∨ (st_ps.any (fun q => q.1 == j && q.2.1 == i)) = true := by decide +kernel
theorem st_m {i j : Nat} (h : st_ps.any (fun q => q.1 == i && q.2.1 == j) = true) : Cond.not (.eq (.static "ElementFiles$Sort" (ev_nm.getD i "") "LElementFiles$Sort;") (.static "ElementFiles$Sort" (ev_nm.getD j "") "LElementFiles$Sort;")) ∈ flatC (Jvm.Cond.and given_1 narrow_1) := by
  obtain ⟨q, hq, h2⟩ := List.any_eq_true.mp h
  rw [Bool.and_eq_true, beq_iff_eq, beq_iff_eq] at h2
  have h3 := List.mem_of_getElem? (st_p q hq)
  rw [h2.1, h2.2] at h3
  exact h3
theorem st_n : ∀ i, i < ev_nm.length → ∀ j, j < ev_nm.length → i ≠ j → Cond.not (.eq (.static "ElementFiles$Sort" (ev_nm.getD i "") "LElementFiles$Sort;") (.static "ElementFiles$Sort" (ev_nm.getD j "") "LElementFiles$Sort;")) ∈ flatC (Jvm.Cond.and given_1 narrow_1) ∨ Cond.not (.eq (.static "ElementFiles$Sort" (ev_nm.getD j "") "LElementFiles$Sort;") (.static "ElementFiles$Sort" (ev_nm.getD i "") "LElementFiles$Sort;")) ∈ flatC (Jvm.Cond.and given_1 narrow_1) := fun i hi j hj hij => (st_c i hi j hj hij).imp st_m st_m
theorem st_a : Cond.arrayOf (.static "ElementFiles$Sort" "ALL" "[LElementFiles$Sort;") (.object "ElementFiles$Sort") ∈ flatC (Jvm.Cond.and given_1 narrow_1) := by decide +kernel
theorem st_z : Cond.eq (.length (.static "ElementFiles$Sort" "ALL" "[LElementFiles$Sort;")) (.int 17) ∈ flatC (Jvm.Cond.and given_1 narrow_1) := by decide +kernel
theorem st_e : ∀ j, j < 17 → Cond.eq (.elem (.static "ElementFiles$Sort" "ALL" "[LElementFiles$Sort;") (.int (Int32.ofNat j))) (.static "ElementFiles$Sort" (ev_nm.getD j "") "LElementFiles$Sort;") ∈ flatC (Jvm.Cond.and given_1 narrow_1) := by decide +kernel
theorem st_o : Cond.arrayOver (.object "ElementFiles$Element") ∈ lw_tbl := by decide +kernel
set_option maxHeartbeats 4000000 in
/-- from the entry, for every script of at most 3072 ints, the law comes to its end with true -/
theorem whole_start {p : Program} {e : Env} {s : State} {m : MethodId} {below : List Frame} {meth : Method} {c : Code} (l : Launch) {b L : Nat} {xs : Nat → Int32} (hL : L ≤ 3072) (C0 : lw_At p s m meth c b L xs) : W p l e room_1 s m #[Value.ref b] below meth c s.heap [] 0 0 (lw_Z below #[Value.ref b] s) (entryFrame m ([Value.ref b] : List Value).toArray 4) := by
  obtain ⟨hx, hb, hr, hml, hown, hts, hX, hbl, hlocks, hgv⟩ := id C0
  have hs := flat_of_before _ hgv
  have hA : ∀ a : Nat, a < s.heap.size → ¬ (fun q : Nat => s.heap.size ≤ q) a := fun a h => Nat.not_le.mpr h
  obtain ⟨c0, iS0, hKn0⟩ := u_known (C := R_EF) (T := F_EF) (N := 7) (n := 7) hts (fun w hw => ev_tbl_in (u_EF_in w hw)) (hts _ (ev_tbl_in m_76))
  obtain ⟨c1, iS1, hKn1⟩ := u_known (C := R_Ro) (T := F_Ro) (N := 2) (n := 2) hts (fun w hw => ev_tbl_in (u_Ro_in w hw)) (hts _ (ev_tbl_in m_84))
  obtain ⟨c2, iS2, hKn2⟩ := u_known (C := R_Fr) (T := F_Fr) (N := 4) (n := 4) hts (fun w hw => ev_tbl_in (u_Fr_in w hw)) (hts _ (ev_tbl_in m_96))
  obtain ⟨c3, iS3, hKn3⟩ := u_known (C := R_El) (T := F_El) (N := 17) (n := 17) hts (fun w hw => ev_tbl_in (u_El_in w hw)) (hts _ (ev_tbl_in m_243))
  obtain ⟨c4, iS4, hKn4⟩ := u_known (C := R_Tr) (T := F_Tr) (N := 5) (n := 5) hts (fun w hw => ev_tbl_in (u_Tr_in w hw)) (hts _ (ev_tbl_in m_107))
  obtain ⟨c5, iS5, hKn5⟩ := u_known (C := R_Re) (T := F_Re) (N := 9) (n := 9) hts (fun w hw => ev_tbl_in (u_Re_in w hw)) (hts _ (ev_tbl_in m_123))
  obtain ⟨c6, iS6, hKn6⟩ := u_known (C := R_Wr) (T := F_Wr) (N := 3) (n := 3) hts (fun w hw => ev_tbl_in (u_Wr_in w hw)) (hts _ (ev_tbl_in m_139))
  obtain ⟨c7, iS7, hKn7⟩ := u_known (C := R_Fi) (T := F_Fi) (N := 1) (n := 1) hts (fun w hw => ev_tbl_in (u_Fi_in w hw)) (hts _ (ev_tbl_in m_150))
  obtain ⟨c8, iS8, hKn8⟩ := u_known (C := R_Mo) (T := F_Mo) (N := 33) (n := 33) hts (fun w hw => ev_tbl_in (u_Mo_in w hw)) (hts _ (ev_tbl_in m_605))
  obtain ⟨dC, dI, hKc⟩ : ∃ (dC : Nat → ClassId) (dI : Nat → Nat → Nat), ∀ (k : Nat) (q : vw_C), vwCl[k]? = some q → u_Kn s q.1 q.2.1 q.2.2 (dC k) (dI k) := by
    refine ⟨fun k => if k = 0 then c0 else if k = 1 then c1 else if k = 2 then c2 else if k = 3 then c3 else if k = 4 then c4 else if k = 5 then c5 else if k = 6 then c6 else if k = 7 then c7 else c8, fun k => if k = 0 then iS0 else if k = 1 then iS1 else if k = 2 then iS2 else if k = 3 then iS3 else if k = 4 then iS4 else if k = 5 then iS5 else if k = 6 then iS6 else if k = 7 then iS7 else iS8, ?_⟩
    intro k q hq
    match k, hq with
    | 0, hq => cases hq; exact hKn0
    | 1, hq => cases hq; exact hKn1
    | 2, hq => cases hq; exact hKn2
    | 3, hq => cases hq; exact hKn3
    | 4, hq => cases hq; exact hKn4
    | 5, hq => cases hq; exact hKn5
    | 6, hq => cases hq; exact hKn6
    | 7, hq => cases hq; exact hKn7
    | 8, hq => cases hq; exact hKn8
    | k + 9, hq => simp [vwCl] at hq
  obtain ⟨a0, kA0, cp0, f01, f02, f03⟩ := Cond.arrayClass_spec (hts _ (ev_tbl_in m_94))
  obtain ⟨a1, kA1, cp1, f11, f12, f13⟩ := Cond.arrayClass_spec (hts _ (ev_tbl_in m_643))
  obtain ⟨a2, kA2, cp2, f21, f22, f23⟩ := Cond.arrayClass_spec (hts _ (ev_tbl_in m_644))
  obtain ⟨cp3, a3, kA3, f34, -, f32, f33, f31⟩ := Cond.arrayOver_spec (hts _ st_o)
  obtain ⟨ad, hEn, hev⟩ := va_Enof2 (args := #[Value.ref b]) (s := s) (E := "ElementFiles$Sort") (d := "LElementFiles$Sort;") (nm := ev_nm) (F := ev_fl) (A := fun q : Nat => s.heap.size ≤ q) (fun i hi => hts _ (st_l i hi)) (hts _ st_i) (fun i hi => hs _ (st_x i hi)) (fun q hq i hi => hs _ (st_f q hq i hi)) (fun i j hi hj hij => (st_n i hi j hj hij).imp (fun h => hs _ h) (fun h => hs _ h)) hA
  obtain ⟨t17, ht17, hTa⟩ := va_Tof (args := #[Value.ref b]) (s := s) (tm := (.static "ElementFiles$Sort" "ALL" "[LElementFiles$Sort;")) (ty := .object "ElementFiles$Sort") (N := 17) (f := fun j => .ref (ad j)) (A := fun q : Nat => s.heap.size ≤ q) (by decide) (hs _ st_a) (va_eqv (hs _ st_z) rfl) (fun j hj => va_eqv (hs _ (st_e j hj)) (hev j hj)) hA
  have hZa := va_Zref (A := fun q : Nat => s.heap.size ≤ q) (hts _ st_la) (hts _ st_i) ht17 hA
  obtain ⟨ad', had⟩ : ∃ ad' : Nat → Nat, ad' = fun r => if r < 17 then ad r else if r = 17 then t17 else b := ⟨_, rfl⟩
  have ad_lo : ∀ i, i < 17 → ad' i = ad i := fun i hi => by rw [had]; exact if_pos hi
  have ad_17 : ad' 17 = t17 := by rw [had]; rfl
  have ad_18 : ad' 18 = b := by rw [had]; rfl
  obtain ⟨G, hG⟩ : ∃ G : Ev_G, G = (l, (dC, dI), (fun k => if k = 0 then a0 else if k = 1 then a1 else if k = 2 then a2 else a3), ad', s.heap) := ⟨_, rfl⟩
  have hK : va_K G.2.1 vwCl (ev_tys G) s := by
    rw [hG]
    refine ⟨hKc, fun k q hq => ?_⟩
    match k, hq with
    | 0, hq => cases hq; exact ⟨fun n z => ⟨fun k h => (by cases h), kA0, f02, cp0, f03⟩, f01⟩
    | 1, hq => cases hq; exact ⟨fun n z => ⟨fun k h => (by cases h), kA1, f12, cp1, f13⟩, f11⟩
    | 2, hq => cases hq; exact ⟨fun n z => ⟨fun k h => (by cases h), kA2, f22, cp2, f23⟩, f21⟩
    | 3, hq => cases hq; exact ⟨fun n z => ⟨fun k h => (by cases h), kA3, f32, cp3, f33⟩, kA3, cp3, f32, f33, f34, f31⟩
    | k + 4, hq => simp [ev_tys, ev_arrs] at hq
  have hsz : ∀ r : Nat, r < 100 → ad' r < s.heap.size := fun r _ => by
    by_cases z : r < 17
    · rw [ad_lo r z]
      obtain ⟨cell, h1, -⟩ := (hEn.1 r z).2.1
      exact (Array.getElem?_eq_some_iff.mp h1).1
    · rw [had]
      show (if r < 17 then ad r else if r = 17 then t17 else b) < _
      rw [if_neg z]
      obtain ⟨cell, h1, -⟩ := hTa
      split
      · exact (Array.getElem?_eq_some_iff.mp h1).1
      · exact hbl
  have hinj : ev_inj G := by
    rw [hG]
    refine ⟨hsz, fun r q hr hq e => ?_⟩
    have e : ad' r = ad' q := e
    rw [ad_lo r hr, ad_lo q hq] at e
    exact hEn.2 r q hr hq e
  have hT : ev_T G s := by
    refine ⟨hK, ?_, ?_, ?_, fun w hw => va_Nw.of (ev_nest_tab w hw) (hts w (ev_nest_in w hw)), fun C hC => ?_⟩
    · rw [hG]
      refine ⟨fun i hi => ?_, fun i j hi hj e => ?_⟩
      · show va_Z _ _ _ (.ref (ad' i)) _ _ _ ∧ va_O _ (ad' i) _ _ _ ∧ ∀ q ∈ ev_fl, va_OF q.1 q.2.1 q.2.2.1 (.int (q.2.2.2.getD i 0)) (ad' i) _ _ _
        rw [ad_lo i hi]; exact hEn.1 i hi
      · have e : ad' i = ad' j := e
        rw [ad_lo i hi, ad_lo j hj] at e
        exact hEn.2 i j hi hj e
    · rw [hG]
      show va_Z _ _ _ (.ref (ad' 17)) _ _ _
      rw [ad_17]; exact hZa
    · rw [hG]
      show va_T _ (ad' 17) 17 (fun j => .ref (ad' j)) _ _ _
      rw [ad_17]
      obtain ⟨cell, h1, h2, h3, h4, h5, h6, h7⟩ := hTa
      exact ⟨cell, h1, h2, h3, h4, h5, fun j hj => by show cell.slots[j]? = some (Value.ref (ad' j)); rw [ad_lo j hj]; exact h6 j hj, h7⟩
    · have hC : C = "ElementFiles$Element" := by simpa [ev_over] using hC
      subst hC
      exact va_AO.of (hts _ st_o)
  have hC : ev_C G M_La_law 10 (p, e, room_1, s, m, #[Value.ref b], below, meth, c, lw_Z below #[Value.ref b] s) := ⟨hx, hb, hml, hown, fun w hw => hts w (ev_tbl_in hw), hT, hinj, fun q _ => by rw [hG], by rw [hG]; exact Nat.le_refl _, by show 10 ≤ room_1.frames; decide, by show 10 * 38 ≤ room_1.locals; decide, hlocks⟩
  have hend : ∀ bc bs ls w, ev_W G M_La_law (p, e, room_1, s, m, #[Value.ref b], below, meth, c, lw_Z below #[Value.ref b] s) bc bs 904 ls [.int 1] w := by
    intro bc bs ls w H locs a cells slots hH hl hL' hc hs'
    have hc : cells + bc ≤ 600000 := hc
    have hs' : slots + bs ≤ 7302250 := hs'
    have hGl : G.1 = l := by rw [hG]
    have hGh : G.2.2.2.2 = s.heap := by rw [hG]
    show W p G.1 e room_1 s m #[Value.ref b] below meth c H locs cells slots (lw_Z below #[Value.ref b] s) (F0 m 904 a [.int 1])
    rw [hGl]
    refine va_forget (fun q hq => by have := hl q hq; rw [hGh] at this; exact this) ?_
    refine W.widen (k := 600000) (n := 7302250) (by omega) (by omega) ?_
    exact lw_ret hx hb hr hlocks d_La_law_904
  have hsc : va_X (G.2.2.2.1 18) L xs s G.2.2.2.2 := by
    rw [hG]
    show va_X (ad' 18) L xs s s.heap
    rw [ad_18]; exact hX
  have h0 := law_all hC hL hsc hend (w := (100, fun _ => none)) ⟨rfl, fun q c hq => by cases hq⟩
  have hH0 : ev_H vwCl G (100, fun _ => none) s.heap := by
    rw [hG]
    exact ⟨fun q _ => rfl, rfl, Nat.le_refl _, fun r c hc => by cases hc⟩
  have e18 : ev_mv G (.ref 18) = .ref b := by
    show Value.ref (ev_rho G 18) = _
    rw [ev_rho, if_pos (by decide), hG]
    show Value.ref (ad' 18) = _
    rw [ad_18]
  have h9 := h0 s.heap [] _ 0 0 hH0 (fun _ h => by cases h) (ev_L.entry [.ref 18] (Nat.le_of_ble_eq_true rfl)) (by show 0 + 600000 ≤ room_1.cells; decide) (by show 0 + 7302250 ≤ room_1.slots; decide)
  have hGl : G.1 = l := by rw [hG]
  have h9 : W p G.1 e room_1 s m #[Value.ref b] below meth c s.heap [] 0 0 (lw_Z below #[Value.ref b] s) (F0 m 0 ((lg_sl ([ev_mv G (.ref 18)]) ++ List.replicate (4 - (lg_sl ([ev_mv G (.ref 18)])).length) Slot.unset).toArray) []) := h9
  rw [e18, hGl] at h9
  rw [lg_entry_eq]
  exact h9
-- ===== YOUR PART ENDS =====
set_option maxHeartbeats 4000000 in
theorem lw_walk (l : Launch) (b : Addr) (xs : List Int32) : MetFree l x (headSpec (Jvm.Cond.code x code maxLocals ret :: tables_1) room_1) (lw_P b xs) (fun _ _ _ _ _ => True) lw_Q := by
  refine MetFree.of_bodyS (code := code) (maxLocals := maxLocals) (ret := ret) (by decide) ?_ ?_
  · intro args s m h hn
    obtain ⟨meth, c, h1, h2, h3, h4, h5, h6, -, -⟩ := Cond.code_spec hn (atoms_spec (ws := Jvm.Cond.code x code maxLocals ret :: tables_1) h _ List.mem_cons_self)
    exact ⟨meth, c, h1, h2, h3, h4, h5, h6⟩
  · intro p e s m args below meth c s₁ B hml0 hP _
    obtain ⟨rfl, hx, hbd, hgv⟩ := hP
    obtain ⟨scr, harrAt, hlist, hof, hsmall⟩ := hx
    obtain ⟨hcb, hkn, -, -⟩ := State.arrayAt?_spec harrAt
    have hown : s.vm.findClass R_law = some m.cls := findClass_of_methodNamed B.named
    have hts0 : ∀ c ∈ (Jvm.Cond.code x code maxLocals ret :: tables_1), c.before #[Value.ref b] s = true := atoms_spec (ws := Jvm.Cond.code x code maxLocals ret :: tables_1) B.pre
    have hts : ∀ w ∈ lw_tbl, w.before #[Value.ref b] s = true := k2_hts_sels lw_privs (fun w hw => hts0 w (List.mem_cons_of_mem _ hw)) lw_privs_ok
    have hml : c.maxLocals = 4 := B.maxLocals_eq (hts0 _ List.mem_cons_self)
    have X₀ : Stand p l e room_1 s m #[Value.ref b] below meth c s₁ [] 0 0 := Stand.of_body B
    have hh0 : s₁.heap = s.heap := by rw [B.state]; rfl
    have hsz : scr.slots.size = xs.length := by rw [← Array.length_toList, hlist, List.length_map]
    have hval : ∀ j : Nat, j < xs.length → scr.slots[j]? = some (.int (xs.getD j 0)) := fun j hj => by
      rw [← Array.getElem?_toList, hlist]
      simp [hj]
    have hbl : b < s.heap.size := (Array.getElem?_eq_some_iff.mp hcb).1
    have hX : va_X b xs.length (fun j => xs.getD j 0) s s.heap := ⟨scr, hcb, hof, hkn, hsz, hval⟩
    have K : W p l e room_1 s m #[Value.ref b] below meth c s₁.heap [] 0 0 (lw_Z below #[Value.ref b] s) (entryFrame m ([Value.ref b] : List Value).toArray 4) := by
      rw [hh0]
      exact whole_start l hbd ⟨B.exec, B.bytes, B.returns, hml, hown, hts, hX, hbl, B.notSynchronized, hgv⟩
    obtain ⟨t, a1, o, b1, b2, b3⟩ := K s₁ rfl X₀
    exact ⟨t, o, a1, b1, b2, b3⟩
theorem lw_pre_spec {args : Array Value} {s : State} (h : (Jvm.Cond.and given_1 narrow_1).before args s = true) (hr : rest_1_c.before args s = true) : ∃ (b : Addr) (xs : List Int32), lw_P b xs args s := by
  have hs := flat_of_before _ h
  have hq := flat_of_before _ hr
  have hc : (Cond.count 1).before args s = true := hs _ (by decide +kernel)
  have harr : (Cond.arrayOf (.arg 0) .int).before args s = true := hs _ (by decide +kernel)
  have hle : (Cond.le (.length (.arg 0)) (.int 3072)).before args s = true := hs _ (by decide +kernel)
  have hlen : (Cond.isInt (.length (.arg 0))).before args s = true := hq _ (by decide +kernel)
  have hall : (Cond.all (.arg 0) (.isInt (.elem (.arg 0) (.index 0)))).before args s = true := hq _ (by decide +kernel)
  obtain ⟨b, xs, hb, hx⟩ := State.ints_of_pre rfl harr hlen hall
  have hsm : xs.length < 2 ^ 31 := hx.choose_spec.2.2.2
  have hev : (Term.length (.arg 0)).eval args s none [] s = some (.int xs.length.toInt32) := hx.length_eval hb
  have hv := Cond.le_ints hev (show (Term.int 3072).eval args s none [] s = some (.int 3072) from rfl)
  have hd : xs.length.toInt32 ≤ 3072 := by
    simpa [Cond.before, Cond.holds, hv] using hle
  have hN : xs.length ≤ 3072 := (Int32.ofNat_le_ofNat hsm (by decide)).mp (show Int32.ofNat xs.length ≤ Int32.ofNat 3072 from hd)
  exact ⟨b, xs, Cond.one_arg hc (show args[0]? = some (.ref b) from hb), hx, hN, h⟩
theorem lw_comes (l : Launch) : Comes l x (Jvm.Cond.code x code maxLocals ret :: tables_1) room_1 (fun tb e args s => Calls_1 tb e args s ∧ rest_1 tb e args s ∧ Pre_1 tb e args s)
    (fun _ _ args s o t => lw_Q args s o t) := by
  intro p e ha hc hk s m args below hf hfit hheap happ hpre
  obtain ⟨b, xs, hP⟩ := lw_pre_spec hpre.2.2 hpre.2.1
  obtain ⟨k, o, h1, h2, h3, hQ⟩ := lw_walk l b xs p e ha hc hk s m args below hf ((Spec.applies_iff_loose hf).mp happ).1 hP trivial
  exact ⟨k, o, h1, h2, h3, hQ⟩
theorem lw_frame {s t : State} {o : Outcome} {args : Array Value} (h : Framed s o t [] 600000 7302250) :
    Framed s o t (fieldLocs frame_1_writes args s ++ arrayLocs frame_1_arrays args s ++ staticLocs frame_1_statics s) 600000 7302250 := h
theorem lw_limb (L : Cond) (hL : ∀ (args : Array Value) (s t : State), L.after args s (.returned (some (.int 1))) t = true) :
    ArmFor flags0 classFile x code maxLocals ret World_1 tables_1 room_1 Calls_1 rest_1 Pre_1
      (fun tb e a s o t => postC L tb e a s o t ∧ Framed s o t (fieldLocs frame_1_writes a s ++ arrayLocs frame_1_arrays a s ++ staticLocs frame_1_statics s) 600000 7302250) := by
  intro l _ _ _ p e ha hc hk s m args below hf hfit hheap happ hpre
  obtain ⟨k, o, h1, h2, h3, rfl, hF⟩ := lw_comes l p e ha hc hk s m args below hf hfit hheap happ hpre
  exact ⟨k, _, h1, h2, h3, hL args s _, lw_frame hF⟩
theorem i_vc : Claimed_1_1 ∧ Claimed_1_2 := ⟨lw_limb limb_1_1 (fun args s t => by simp [limb_1_1, Cond.after, Cond.holds, Cond.value]), lw_limb limb_1_2 (fun args s t => Cond.after_iff.mpr (by
  first | (rw [show limb_1_2 = Cond.eq .result (.int 1) from rfl, Cond.eq_ints (x := 1) (y := 1) rfl rfl]; simp; done) | (simp [limb_1_2, Cond.value, Term.eval]; done)))⟩
