/-! ===== constructors ===== -/
/-- the world's next number, and what stands at some numbers -/
def wt (w : Ev_W) (n : Nat) (L : List (Nat × Ev_K)) : Prop := w.1 = n ∧ ∀ q c, L.lookup q = some c → w.2 q = some c
theorem wt.new {w : Ev_W} {n : Nat} {L : List (Nat × Ev_K)} (h : wt w n L) (c : Ev_K) : wt (ev_new w c) (n + 1) ((n, c) :: L) := by
  refine ⟨by show w.1 + 1 = _; rw [h.1], fun q c' hq => ?_⟩
  by_cases z : q = n
  · subst z
    rw [List.lookup_cons, beq_self_eq_true] at hq
    cases hq
    rw [← h.1, ev_new_self]
  · have hz : (q == n) = false := by simp [z]
    rw [List.lookup_cons, hz] at hq
    rw [ev_new_ne _ _ (by rw [h.1]; exact z)]
    exact h.2 q c' hq
theorem wt.st {w : Ev_W} {n : Nat} {L : List (Nat × Ev_K)} (h : wt w n L) (r : Nat) (c : Ev_K) : wt (ev_set w r c) n ((r, c) :: L) := by
  refine ⟨h.1, fun q c' hq => ?_⟩
  by_cases z : q = r
  · subst z
    rw [List.lookup_cons, beq_self_eq_true] at hq
    cases hq
    rw [ev_set_self]
  · have hz : (q == r) = false := by simp [z]
    rw [List.lookup_cons, hz] at hq
    rw [ev_set_ne _ _ z]
    exact h.2 q c' hq
section EvT
variable {G : Ev_G} {M : Ev_M} {d : Nat} {X : Ev_X} {bc bs pc : Nat} {ls : Ev_L} {st : List Value} {w : Ev_W} {n : Nat} {L : List (Nat × Ev_K)}
theorem r_newaT {bc' bs' : Nat} (hX : ev_C G M d X) {at_ : ArrayType} {k N : Nat} {ty : FieldType} {i : Int32} {e0 : (Nat → Int32) ⊕ (Nat → Int64) ⊕ (Nat → Option Nat)} (hT : wt w n L) (hd : decode M.2.2.1 pc = .ok (.newarray at_, 2)) (hty : newarray.typeOf at_ = ty) (hAr : Cond.arrayClass ty ∈ ev_tbl) (hk : ev_arrs[k]? = some ty) (hp : ty.isReference = false)
    (he : ∀ G : Ev_G, ev_cnv G (.inl (k, N, e0)) = .inl (G.2.2.1 k, N, (ev_cnv G (.inl (k, N, e0))).elim (fun q => q.2.2) (fun _ => .inl (fun _ => 0))) ∧ vp_cell (G.2.2.1 k) (N, (ev_cnv G (.inl (k, N, e0))).elim (fun q => q.2.2) (fun _ => .inl (fun _ => 0))) = arrV (G.2.2.1 k) N (fun _ => defaultValue ty))
    (hn : ¬ i < 0) (hN : i.toNatClampNeg = N) (hby : N * componentBytes ty ≤ 536870912) (hc1 : 1 + bc' ≤ bc) (hs1 : N + bs' ≤ bs) (kk : ∀ w2, wt w2 (n + 1) ((n, .inl (k, N, e0)) :: L) → ev_W G M X bc' bs' (pc + 2) ls (.ref n :: st) w2) : ev_W G M X bc bs pc ls (.int i :: st) w :=
  r_newa hX hd hty hAr hk hp he hn hN hby hc1 hs1 (fun _ _ => by have := kk _ (hT.new (.inl (k, N, e0))); rw [hT.1]; exact this)
theorem r_newqT {bc' bs' : Nat} (hX : ev_C G M d X) {index k N : Nat} {C : String} {i : Int32} (hT : wt w n L) (hd : decode M.2.2.1 pc = .ok (.anewarray index, 3)) (hcl : Cond.classLink M.1 index C ∈ ev_tbl) (hov : C ∈ ev_over) (hk : ev_arrs[k]? = some (.object C)) (hn : ¬ i < 0) (hN : i.toNatClampNeg = N) (hby : N * 4 ≤ 536870912) (hc1 : 1 + bc' ≤ bc) (hs1 : N + bs' ≤ bs) (kk : ∀ w2, wt w2 (n + 1) ((n, .inl (k, N, .inr (.inr (fun _ => none)))) :: L) → ev_W G M X bc' bs' (pc + 3) ls (.ref n :: st) w2) : ev_W G M X bc bs pc ls (.int i :: st) w :=
  r_newq hX hd hcl hov hk hn hN hby hc1 hs1 (fun _ _ => by have := kk _ (hT.new (.inl (k, N, .inr (.inr (fun _ => none))))); rw [hT.1]; exact this)
theorem r_newT {bc' bs' : Nat} (hX : ev_C G M d X) {index ci N : Nat} {fs : List Value} (hT : wt w n L) (hd : decode M.2.2.1 pc = .ok (.new index, 3)) (hN : ev_N M.1 index ci N fs) (hc1 : 1 + bc' ≤ bc) (hs1 : N + bs' ≤ bs) (kk : ∀ w2, wt w2 (n + 1) ((n, .inr (ci, fs)) :: L) → ev_W G M X bc' bs' (pc + 3) ls (.ref n :: st) w2) : ev_W G M X bc bs pc ls st w :=
  r_new hX hd hN hc1 hs1 (fun _ _ => by have := kk _ (hT.new (.inr (ci, fs))); rw [hT.1]; exact this)
theorem r_putfT (hX : ev_C G M d X) {index ci k r : Nat} {ty : FieldType} {fs : List Value} {v : Value} (hT : wt w n L) (hd : decode M.2.2.1 pc = .ok (.putfield index, 3)) (hF : ev_FP M.1 index ci k ty false) (hw : L.lookup r = some (.inr (ci, fs))) (hr : 100 ≤ r) (hn : narrow ty v = v) (hv : fits ty v = true) (hk : k < fs.length) (kk : ∀ w2, wt w2 n ((r, .inr (ci, fs.set k v)) :: L) → ev_W G M X bc bs (pc + 3) ls st w2) : ev_W G M X bc bs pc ls (v :: .ref r :: st) w :=
  r_putf hX hd hF (hT.2 r _ hw) hr hn hv hk (kk _ (hT.st _ _))
theorem r_putFT (hX : ev_C G M d X) {index ci k r : Nat} {ty : FieldType} {fs : List Value} {v : Value} (hT : wt w n L) (hd : decode M.2.2.1 pc = .ok (.putfield index, 3)) (hF : ev_FP M.1 index ci k ty true) (hin : X.2.2.2.2.2.2.2.1.name = "<init>") (hC : (vwCl[ci]?).map (fun q => q.1) = some M.1) (hw : L.lookup r = some (.inr (ci, fs))) (hr : 100 ≤ r) (hn : narrow ty v = v) (hv : fits ty v = true) (hk : k < fs.length) (kk : ∀ w2, wt w2 n ((r, .inr (ci, fs.set k v)) :: L) → ev_W G M X bc bs (pc + 3) ls st w2) : ev_W G M X bc bs pc ls (v :: .ref r :: st) w :=
  r_putF hX hd hF hin hC (hT.2 r _ hw) hr hn hv hk (kk _ (hT.st _ _))
end EvT
theorem c_Ro_init_101 {G : Ev_G} {w : Ev_W} {L : List (Nat × Ev_K)} (hT : wt w 102 ((101, .inr (1, [.null, .int 0])) :: L)) : ev_Met G M_Ro_init 1 1 640 [.ref 101, .int 640] w (fun v w' => v = none ∧ wt w' 103 ((101, .inr (1, [.ref 102, .int 0])) :: (102, .inl (0, 640, .inl (fun _ => 0))) :: (101, .inr (1, [.null, .int 0])) :: L)) := by
  refine ev_Met.of md_Ro_init (Nat.le_of_ble_eq_true rfl) (fun X hX hR => ?_)
  refine q_aload hX 0 d_Ro_init_0 rfl (by first | rfl | assumption) ?_
  refine r_objI hX d_Ro_init_1 ol_Ro_3 (by decide) (Nat.le_of_ble_eq_true rfl) ?_
  refine q_aload hX 0 d_Ro_init_4 rfl (by first | rfl | assumption) ?_
  refine q_iload hX 1 d_Ro_init_5 rfl (by first | rfl | assumption) ?_
  refine r_if_ge hX 13 d_Ro_init_6 (by decide) (fun _ => ?_) (fun c6 => absurd (by decide) c6)
  refine q_iload hX 1 d_Ro_init_13 rfl (by first | rfl | assumption) ?_
  refine r_newaT (bc' := 0) (bs' := 0) (k := 0) (N := 640) (e0 := .inl (fun _ => 0)) hX hT d_Ro_init_14 rfl m_94 rfl rfl (fun G => ⟨rfl, rfl⟩) (by decide) (by decide) (by decide) (by decide) (by decide) (fun w hT => ?_)
  refine r_putFT hX hT d_Ro_init_16 fp_Ro_9 hR.2.2.2.2 rfl rfl (by decide) rfl rfl (Nat.le_of_ble_eq_true rfl) (fun w hT => ?_)
  refine r_vret hX hR d_Ro_init_19 rfl ?_
  exact ⟨rfl, hT⟩
theorem c_Ro_init_103 {G : Ev_G} {w : Ev_W} {L : List (Nat × Ev_K)} (hT : wt w 104 ((103, .inr (1, [.null, .int 0])) :: L)) : ev_Met G M_Ro_init 1 1 640 [.ref 103, .int 640] w (fun v w' => v = none ∧ wt w' 105 ((103, .inr (1, [.ref 104, .int 0])) :: (104, .inl (0, 640, .inl (fun _ => 0))) :: (103, .inr (1, [.null, .int 0])) :: L)) := by
  refine ev_Met.of md_Ro_init (Nat.le_of_ble_eq_true rfl) (fun X hX hR => ?_)
  refine q_aload hX 0 d_Ro_init_0 rfl (by first | rfl | assumption) ?_
  refine r_objI hX d_Ro_init_1 ol_Ro_3 (by decide) (Nat.le_of_ble_eq_true rfl) ?_
  refine q_aload hX 0 d_Ro_init_4 rfl (by first | rfl | assumption) ?_
  refine q_iload hX 1 d_Ro_init_5 rfl (by first | rfl | assumption) ?_
  refine r_if_ge hX 13 d_Ro_init_6 (by decide) (fun _ => ?_) (fun c6 => absurd (by decide) c6)
  refine q_iload hX 1 d_Ro_init_13 rfl (by first | rfl | assumption) ?_
  refine r_newaT (bc' := 0) (bs' := 0) (k := 0) (N := 640) (e0 := .inl (fun _ => 0)) hX hT d_Ro_init_14 rfl m_94 rfl rfl (fun G => ⟨rfl, rfl⟩) (by decide) (by decide) (by decide) (by decide) (by decide) (fun w hT => ?_)
  refine r_putFT hX hT d_Ro_init_16 fp_Ro_9 hR.2.2.2.2 rfl rfl (by decide) rfl rfl (Nat.le_of_ble_eq_true rfl) (fun w hT => ?_)
  refine r_vret hX hR d_Ro_init_19 rfl ?_
  exact ⟨rfl, hT⟩
theorem c_Ro_init_114 {G : Ev_G} {w : Ev_W} {L : List (Nat × Ev_K)} (hT : wt w 115 ((114, .inr (1, [.null, .int 0])) :: L)) : ev_Met G M_Ro_init 1 1 0 [.ref 114, .int 0] w (fun v w' => v = none ∧ wt w' 116 ((114, .inr (1, [.ref 115, .int 0])) :: (115, .inl (0, 0, .inl (fun _ => 0))) :: (114, .inr (1, [.null, .int 0])) :: L)) := by
  refine ev_Met.of md_Ro_init (Nat.le_of_ble_eq_true rfl) (fun X hX hR => ?_)
  refine q_aload hX 0 d_Ro_init_0 rfl (by first | rfl | assumption) ?_
  refine r_objI hX d_Ro_init_1 ol_Ro_3 (by decide) (Nat.le_of_ble_eq_true rfl) ?_
  refine q_aload hX 0 d_Ro_init_4 rfl (by first | rfl | assumption) ?_
  refine q_iload hX 1 d_Ro_init_5 rfl (by first | rfl | assumption) ?_
  refine r_if_ge hX 13 d_Ro_init_6 (by decide) (fun _ => ?_) (fun c6 => absurd (by decide) c6)
  refine q_iload hX 1 d_Ro_init_13 rfl (by first | rfl | assumption) ?_
  refine r_newaT (bc' := 0) (bs' := 0) (k := 0) (N := 0) (e0 := .inl (fun _ => 0)) hX hT d_Ro_init_14 rfl m_94 rfl rfl (fun G => ⟨rfl, rfl⟩) (by decide) (by decide) (by decide) (by decide) (by decide) (fun w hT => ?_)
  refine r_putFT hX hT d_Ro_init_16 fp_Ro_9 hR.2.2.2.2 rfl rfl (by decide) rfl rfl (Nat.le_of_ble_eq_true rfl) (fun w hT => ?_)
  refine r_vret hX hR d_Ro_init_19 rfl ?_
  exact ⟨rfl, hT⟩
theorem c_Fr_init_105 {G : Ev_G} {w : Ev_W} {L : List (Nat × Ev_K)} (hT : wt w 106 ((105, .inr (2, [.null, .null, .int 0, .int 0])) :: L)) : ev_Met G M_Fr_init 1 2 408 [.ref 105] w (fun v w' => v = none ∧ wt w' 108 ((105, .inr (2, [.ref 106, .ref 107, .int 0, .int 0])) :: (107, .inl (0, 400, .inl (fun _ => 0))) :: (105, .inr (2, [.ref 106, .null, .int 0, .int 0])) :: (106, .inl (0, 8, .inl (fun _ => 0))) :: (105, .inr (2, [.null, .null, .int 0, .int 0])) :: L)) := by
  refine ev_Met.of md_Fr_init (Nat.le_of_ble_eq_true rfl) (fun X hX hR => ?_)
  refine q_aload hX 0 d_Fr_init_0 rfl (by first | rfl | assumption) ?_
  refine r_objI hX d_Fr_init_1 ol_Fr_3 (by decide) (Nat.le_of_ble_eq_true rfl) ?_
  refine q_aload hX 0 d_Fr_init_4 rfl (by first | rfl | assumption) ?_
  refine r_bipush (v := 8) hX d_Fr_init_5 (by decide) ?_
  refine r_newaT (bc' := 1) (bs' := 400) (k := 0) (N := 8) (e0 := .inl (fun _ => 0)) hX hT d_Fr_init_7 rfl m_94 rfl rfl (fun G => ⟨rfl, rfl⟩) (by decide) (by decide) (by decide) (by decide) (by decide) (fun w hT => ?_)
  refine r_putFT hX hT d_Fr_init_9 fp_Fr_9 hR.2.2.2.2 rfl rfl (by decide) rfl rfl (Nat.le_of_ble_eq_true rfl) (fun w hT => ?_)
  refine q_aload hX 0 d_Fr_init_12 rfl (by first | rfl | assumption) ?_
  refine r_sipush (v := 400) hX d_Fr_init_13 (by decide) ?_
  refine r_newaT (bc' := 0) (bs' := 0) (k := 0) (N := 400) (e0 := .inl (fun _ => 0)) hX hT d_Fr_init_16 rfl m_94 rfl rfl (fun G => ⟨rfl, rfl⟩) (by decide) (by decide) (by decide) (by decide) (by decide) (fun w hT => ?_)
  refine r_putFT hX hT d_Fr_init_18 fp_Fr_15 hR.2.2.2.2 rfl rfl (by decide) rfl rfl (Nat.le_of_ble_eq_true rfl) (fun w hT => ?_)
  refine r_vret hX hR d_Fr_init_21 rfl ?_
  exact ⟨rfl, hT⟩
theorem c_Tr_init_108 {G : Ev_G} {w : Ev_W} {L : List (Nat × Ev_K)} (hT : wt w 109 ((108, .inr (4, [.null, .null, .int 0, .null, .int 0])) :: L)) : ev_Met G M_Tr_init 1 3 1320 [.ref 108] w (fun v w' => v = none ∧ wt w' 112 ((108, .inr (4, [.ref 109, .ref 110, .int 0, .ref 111, .int 0])) :: (111, .inl (0, 1200, .inl (fun _ => 0))) :: (108, .inr (4, [.ref 109, .ref 110, .int 0, .null, .int 0])) :: (110, .inl (3, 60, .inr (.inr (fun _ => none)))) :: (108, .inr (4, [.ref 109, .null, .int 0, .null, .int 0])) :: (109, .inl (3, 60, .inr (.inr (fun _ => none)))) :: (108, .inr (4, [.null, .null, .int 0, .null, .int 0])) :: L)) := by
  refine ev_Met.of md_Tr_init (Nat.le_of_ble_eq_true rfl) (fun X hX hR => ?_)
  refine q_aload hX 0 d_Tr_init_0 rfl (by first | rfl | assumption) ?_
  refine r_objI hX d_Tr_init_1 ol_Tr_3 (by decide) (Nat.le_of_ble_eq_true rfl) ?_
  refine q_aload hX 0 d_Tr_init_4 rfl (by first | rfl | assumption) ?_
  refine r_bipush (v := 60) hX d_Tr_init_5 (by decide) ?_
  refine r_newqT (bc' := 2) (bs' := 1260) (k := 3) (N := 60) (C := "ElementFiles$Element") hX hT d_Tr_init_7 m_111 (by decide) rfl (by decide) (by decide) (by decide) (by decide) (by decide) (fun w hT => ?_)
  refine r_putFT hX hT d_Tr_init_10 fp_Tr_11 hR.2.2.2.2 rfl rfl (by decide) rfl rfl (Nat.le_of_ble_eq_true rfl) (fun w hT => ?_)
  refine q_aload hX 0 d_Tr_init_13 rfl (by first | rfl | assumption) ?_
  refine r_bipush (v := 60) hX d_Tr_init_14 (by decide) ?_
  refine r_newqT (bc' := 1) (bs' := 1200) (k := 3) (N := 60) (C := "ElementFiles$Element") hX hT d_Tr_init_16 m_111 (by decide) rfl (by decide) (by decide) (by decide) (by decide) (by decide) (fun w hT => ?_)
  refine r_putFT hX hT d_Tr_init_19 fp_Tr_17 hR.2.2.2.2 rfl rfl (by decide) rfl rfl (Nat.le_of_ble_eq_true rfl) (fun w hT => ?_)
  refine q_aload hX 0 d_Tr_init_22 rfl (by first | rfl | assumption) ?_
  refine r_sipush (v := 1200) hX d_Tr_init_23 (by decide) ?_
  refine r_newaT (bc' := 0) (bs' := 0) (k := 0) (N := 1200) (e0 := .inl (fun _ => 0)) hX hT d_Tr_init_26 rfl m_94 rfl rfl (fun G => ⟨rfl, rfl⟩) (by decide) (by decide) (by decide) (by decide) (by decide) (fun w hT => ?_)
  refine r_putFT hX hT d_Tr_init_28 fp_Tr_20 hR.2.2.2.2 rfl rfl (by decide) rfl rfl (Nat.le_of_ble_eq_true rfl) (fun w hT => ?_)
  refine r_vret hX hR d_Tr_init_31 rfl ?_
  exact ⟨rfl, hT⟩
theorem c_Re_init_112 {G : Ev_G} {w : Ev_W} {L : List (Nat × Ev_K)} (hT : wt w 113 ((112, .inr (5, [.null, .null, .int 0, .null, .int 0, .int 0, .int 0, .int 0, .int 0])) :: L)) : ev_Met G M_Re_init 1 0 0 [.ref 112, .ref 101, .ref 108] w (fun v w' => v = none ∧ wt w' 113 ((112, .inr (5, [.ref 101, .ref 108, .int (-1), .null, .int 0, .int 0, .int 0, .int 0, .int 0])) :: (112, .inr (5, [.ref 101, .null, .int (-1), .null, .int 0, .int 0, .int 0, .int 0, .int 0])) :: (112, .inr (5, [.null, .null, .int (-1), .null, .int 0, .int 0, .int 0, .int 0, .int 0])) :: (112, .inr (5, [.null, .null, .int 0, .null, .int 0, .int 0, .int 0, .int 0, .int 0])) :: L)) := by
  refine ev_Met.of md_Re_init (Nat.le_of_ble_eq_true rfl) (fun X hX hR => ?_)
  refine q_aload hX 0 d_Re_init_0 rfl (by first | rfl | assumption) ?_
  refine r_objI hX d_Re_init_1 ol_Re_3 (by decide) (Nat.le_of_ble_eq_true rfl) ?_
  refine q_aload hX 0 d_Re_init_4 rfl (by first | rfl | assumption) ?_
  refine r_iconst (v := -1) hX d_Re_init_5 (by decide) ?_
  refine r_putfT hX hT d_Re_init_6 fp_Re_9 rfl (by decide) rfl rfl (Nat.le_of_ble_eq_true rfl) (fun w hT => ?_)
  refine q_aload hX 0 d_Re_init_9 rfl (by first | rfl | assumption) ?_
  refine q_aload hX 1 d_Re_init_10 rfl (by first | rfl | assumption) ?_
  refine r_putFT hX hT d_Re_init_11 fp_Re_15 hR.2.2.2.2 rfl rfl (by decide) rfl rfl (Nat.le_of_ble_eq_true rfl) (fun w hT => ?_)
  refine q_aload hX 0 d_Re_init_14 rfl (by first | rfl | assumption) ?_
  refine q_aload hX 2 d_Re_init_15 rfl (by first | rfl | assumption) ?_
  refine r_putFT hX hT d_Re_init_16 fp_Re_19 hR.2.2.2.2 rfl rfl (by decide) rfl rfl (Nat.le_of_ble_eq_true rfl) (fun w hT => ?_)
  refine r_vret hX hR d_Re_init_19 rfl ?_
  exact ⟨rfl, hT⟩
theorem nw_Wr_9 : ev_N R_Wr 9 1 2 [.null, .int 0] := ⟨_, _, t_Ro, rfl, u_Ro_in, t_Ro_ok, m_144, m_84, m_64, by decide +kernel, fun G => rfl⟩
theorem c_Wr_init_113 {G : Ev_G} {w : Ev_W} {L : List (Nat × Ev_K)} (hT : wt w 114 ((113, .inr (6, [.null, .null, .null])) :: L)) : ev_Met G M_Wr_init 2 2 2 [.ref 113, .ref 108, .ref 103] w (fun v w' => v = none ∧ wt w' 116 ((113, .inr (6, [.ref 108, .ref 103, .ref 114])) :: (113, .inr (6, [.ref 108, .null, .ref 114])) :: (113, .inr (6, [.null, .null, .ref 114])) :: (114, .inr (1, [.ref 115, .int 0])) :: (115, .inl (0, 0, .inl (fun _ => 0))) :: (114, .inr (1, [.null, .int 0])) :: (113, .inr (6, [.null, .null, .null])) :: L)) := by
  refine ev_Met.of md_Wr_init (Nat.le_of_ble_eq_true rfl) (fun X hX hR => ?_)
  refine q_aload hX 0 d_Wr_init_0 rfl (by first | rfl | assumption) ?_
  refine r_objI hX d_Wr_init_1 ol_Wr_3 (by decide) (Nat.le_of_ble_eq_true rfl) ?_
  refine q_aload hX 0 d_Wr_init_4 rfl (by first | rfl | assumption) ?_
  refine r_newT (bc' := 1) (bs' := 0) hX hT d_Wr_init_5 nw_Wr_9 (by decide) (by decide) (fun w hT => ?_)
  refine r_dup hX d_Wr_init_8 rfl ?_
  refine r_iconst (v := 0) hX d_Wr_init_9 (by decide) ?_
  refine r_callI (as := [_]) hX d_Wr_init_10 lk_Wr_11 rfl (Nat.le_of_ble_eq_true rfl) (by decide) 0 0 (by decide) (by decide) (c_Ro_init_114 (G := G) hT) (fun v w hq => ?_)
  obtain ⟨rfl, hT⟩ := hq
  refine r_putFT hX hT d_Wr_init_13 fp_Wr_14 hR.2.2.2.2 rfl rfl (by decide) rfl rfl (Nat.le_of_ble_eq_true rfl) (fun w hT => ?_)
  refine q_aload hX 0 d_Wr_init_16 rfl (by first | rfl | assumption) ?_
  refine q_aload hX 1 d_Wr_init_17 rfl (by first | rfl | assumption) ?_
  refine r_putFT hX hT d_Wr_init_18 fp_Wr_20 hR.2.2.2.2 rfl rfl (by decide) rfl rfl (Nat.le_of_ble_eq_true rfl) (fun w hT => ?_)
  refine q_aload hX 0 d_Wr_init_21 rfl (by first | rfl | assumption) ?_
  refine q_aload hX 2 d_Wr_init_22 rfl (by first | rfl | assumption) ?_
  refine r_putFT hX hT d_Wr_init_23 fp_Wr_24 hR.2.2.2.2 rfl rfl (by decide) rfl rfl (Nat.le_of_ble_eq_true rfl) (fun w hT => ?_)
  refine r_vret hX hR d_Wr_init_26 rfl ?_
  exact ⟨rfl, hT⟩
theorem c_Fi_init_116 {G : Ev_G} {w : Ev_W} {L : List (Nat × Ev_K)} (hT : wt w 117 ((116, .inr (7, [.null])) :: L)) : ev_Met G M_Fi_init 1 0 0 [.ref 116, .ref 108] w (fun v w' => v = none ∧ wt w' 117 ((116, .inr (7, [.ref 108])) :: (116, .inr (7, [.null])) :: L)) := by
  refine ev_Met.of md_Fi_init (Nat.le_of_ble_eq_true rfl) (fun X hX hR => ?_)
  refine q_aload hX 0 d_Fi_init_0 rfl (by first | rfl | assumption) ?_
  refine r_objI hX d_Fi_init_1 ol_Fi_3 (by decide) (Nat.le_of_ble_eq_true rfl) ?_
  refine q_aload hX 0 d_Fi_init_4 rfl (by first | rfl | assumption) ?_
  refine q_aload hX 1 d_Fi_init_5 rfl (by first | rfl | assumption) ?_
  refine r_putFT hX hT d_Fi_init_6 fp_Fi_9 hR.2.2.2.2 rfl rfl (by decide) rfl rfl (Nat.le_of_ble_eq_true rfl) (fun w hT => ?_)
  refine r_vret hX hR d_Fi_init_9 rfl ?_
  exact ⟨rfl, hT⟩
theorem nw_EF_7 : ev_N R_EF 7 1 2 [.null, .int 0] := ⟨_, _, t_Ro, rfl, u_Ro_in, t_Ro_ok, m_83, m_84, m_64, by decide +kernel, fun G => rfl⟩
theorem nw_EF_21 : ev_N R_EF 21 2 4 [.null, .null, .int 0, .int 0] := ⟨_, _, t_Fr, rfl, u_Fr_in, t_Fr_ok, m_95, m_96, m_65, by decide +kernel, fun G => rfl⟩
theorem nw_EF_28 : ev_N R_EF 28 4 5 [.null, .null, .int 0, .null, .int 0] := ⟨_, _, t_Tr, rfl, u_Tr_in, t_Tr_ok, m_106, m_107, m_66, by decide +kernel, fun G => rfl⟩
theorem nw_EF_35 : ev_N R_EF 35 5 9 [.null, .null, .int 0, .null, .int 0, .int 0, .int 0, .int 0, .int 0] := ⟨_, _, t_Re, rfl, u_Re_in, t_Re_ok, m_122, m_123, m_67, by decide +kernel, fun G => rfl⟩
theorem nw_EF_44 : ev_N R_EF 44 6 3 [.null, .null, .null] := ⟨_, _, t_Wr, rfl, u_Wr_in, t_Wr_ok, m_138, m_139, m_68, by decide +kernel, fun G => rfl⟩
theorem nw_EF_53 : ev_N R_EF 53 7 1 [.null] := ⟨_, _, t_Fi, rfl, u_Fi_in, t_Fi_ok, m_149, m_150, m_69, by decide +kernel, fun G => rfl⟩
theorem c_EF_init_100 {G : Ev_G} {w : Ev_W} {L : List (Nat × Ev_K)} (hT : wt w 101 ((100, .inr (0, [.null, .null, .null, .null, .null, .null, .null])) :: L)) : ev_Met G M_EF_init 3 16 3036 [.ref 100] w (fun v w' => v = none ∧ wt w' 117 ((100, .inr (0, [.ref 101, .ref 103, .ref 105, .ref 108, .ref 112, .ref 113, .ref 116])) :: (116, .inr (7, [.ref 108])) :: (116, .inr (7, [.null])) :: (100, .inr (0, [.ref 101, .ref 103, .ref 105, .ref 108, .ref 112, .ref 113, .null])) :: (113, .inr (6, [.ref 108, .ref 103, .ref 114])) :: (113, .inr (6, [.ref 108, .null, .ref 114])) :: (113, .inr (6, [.null, .null, .ref 114])) :: (114, .inr (1, [.ref 115, .int 0])) :: (115, .inl (0, 0, .inl (fun _ => 0))) :: (114, .inr (1, [.null, .int 0])) :: (113, .inr (6, [.null, .null, .null])) :: (100, .inr (0, [.ref 101, .ref 103, .ref 105, .ref 108, .ref 112, .null, .null])) :: (112, .inr (5, [.ref 101, .ref 108, .int (-1), .null, .int 0, .int 0, .int 0, .int 0, .int 0])) :: (112, .inr (5, [.ref 101, .null, .int (-1), .null, .int 0, .int 0, .int 0, .int 0, .int 0])) :: (112, .inr (5, [.null, .null, .int (-1), .null, .int 0, .int 0, .int 0, .int 0, .int 0])) :: (112, .inr (5, [.null, .null, .int 0, .null, .int 0, .int 0, .int 0, .int 0, .int 0])) :: (100, .inr (0, [.ref 101, .ref 103, .ref 105, .ref 108, .null, .null, .null])) :: (108, .inr (4, [.ref 109, .ref 110, .int 0, .ref 111, .int 0])) :: (111, .inl (0, 1200, .inl (fun _ => 0))) :: (108, .inr (4, [.ref 109, .ref 110, .int 0, .null, .int 0])) :: (110, .inl (3, 60, .inr (.inr (fun _ => none)))) :: (108, .inr (4, [.ref 109, .null, .int 0, .null, .int 0])) :: (109, .inl (3, 60, .inr (.inr (fun _ => none)))) :: (108, .inr (4, [.null, .null, .int 0, .null, .int 0])) :: (100, .inr (0, [.ref 101, .ref 103, .ref 105, .null, .null, .null, .null])) :: (105, .inr (2, [.ref 106, .ref 107, .int 0, .int 0])) :: (107, .inl (0, 400, .inl (fun _ => 0))) :: (105, .inr (2, [.ref 106, .null, .int 0, .int 0])) :: (106, .inl (0, 8, .inl (fun _ => 0))) :: (105, .inr (2, [.null, .null, .int 0, .int 0])) :: (100, .inr (0, [.ref 101, .ref 103, .null, .null, .null, .null, .null])) :: (103, .inr (1, [.ref 104, .int 0])) :: (104, .inl (0, 640, .inl (fun _ => 0))) :: (103, .inr (1, [.null, .int 0])) :: (100, .inr (0, [.ref 101, .null, .null, .null, .null, .null, .null])) :: (101, .inr (1, [.ref 102, .int 0])) :: (102, .inl (0, 640, .inl (fun _ => 0))) :: (101, .inr (1, [.null, .int 0])) :: (100, .inr (0, [.null, .null, .null, .null, .null, .null, .null])) :: L)) := by
  refine ev_Met.of md_EF_init (Nat.le_of_ble_eq_true rfl) (fun X hX hR => ?_)
  refine q_aload hX 0 d_EF_init_0 rfl (by first | rfl | assumption) ?_
  refine r_objI hX d_EF_init_1 ol_EF_1 (by decide) (Nat.le_of_ble_eq_true rfl) ?_
  refine q_aload hX 0 d_EF_init_4 rfl (by first | rfl | assumption) ?_
  refine r_newT (bc' := 15) (bs' := 3034) hX hT d_EF_init_5 nw_EF_7 (by decide) (by decide) (fun w hT => ?_)
  refine r_dup hX d_EF_init_8 rfl ?_
  refine r_sipush (v := 640) hX d_EF_init_9 (by decide) ?_
  refine r_callI (as := [_]) hX d_EF_init_12 lk_EF_11 rfl (Nat.le_of_ble_eq_true rfl) (by decide) 14 2394 (by decide) (by decide) (c_Ro_init_101 (G := G) hT) (fun v w hq => ?_)
  obtain ⟨rfl, hT⟩ := hq
  refine r_putFT hX hT d_EF_init_15 fp_EF_14 hR.2.2.2.2 rfl rfl (by decide) rfl rfl (Nat.le_of_ble_eq_true rfl) (fun w hT => ?_)
  refine q_aload hX 0 d_EF_init_18 rfl (by first | rfl | assumption) ?_
  refine r_newT (bc' := 13) (bs' := 2392) hX hT d_EF_init_19 nw_EF_7 (by decide) (by decide) (fun w hT => ?_)
  refine r_dup hX d_EF_init_22 rfl ?_
  refine r_sipush (v := 640) hX d_EF_init_23 (by decide) ?_
  refine r_callI (as := [_]) hX d_EF_init_26 lk_EF_11 rfl (Nat.le_of_ble_eq_true rfl) (by decide) 12 1752 (by decide) (by decide) (c_Ro_init_103 (G := G) hT) (fun v w hq => ?_)
  obtain ⟨rfl, hT⟩ := hq
  refine r_putFT hX hT d_EF_init_29 fp_EF_18 hR.2.2.2.2 rfl rfl (by decide) rfl rfl (Nat.le_of_ble_eq_true rfl) (fun w hT => ?_)
  refine q_aload hX 0 d_EF_init_32 rfl (by first | rfl | assumption) ?_
  refine r_newT (bc' := 11) (bs' := 1748) hX hT d_EF_init_33 nw_EF_21 (by decide) (by decide) (fun w hT => ?_)
  refine r_dup hX d_EF_init_36 rfl ?_
  refine r_callIN (as := []) hX d_EF_init_37 lk_EF_23 rfl (Nat.le_of_ble_eq_true rfl) (by decide) 9 1340 (by decide) (by decide) (c_Fr_init_105 (G := G) hT) (fun v w hq => ?_)
  obtain ⟨rfl, hT⟩ := hq
  refine r_putFT hX hT d_EF_init_40 fp_EF_24 hR.2.2.2.2 rfl rfl (by decide) rfl rfl (Nat.le_of_ble_eq_true rfl) (fun w hT => ?_)
  refine q_aload hX 0 d_EF_init_43 rfl (by first | rfl | assumption) ?_
  refine r_newT (bc' := 8) (bs' := 1335) hX hT d_EF_init_44 nw_EF_28 (by decide) (by decide) (fun w hT => ?_)
  refine r_dup hX d_EF_init_47 rfl ?_
  refine r_callIN (as := []) hX d_EF_init_48 lk_EF_30 rfl (Nat.le_of_ble_eq_true rfl) (by decide) 5 15 (by decide) (by decide) (c_Tr_init_108 (G := G) hT) (fun v w hq => ?_)
  obtain ⟨rfl, hT⟩ := hq
  refine r_putFT hX hT d_EF_init_51 fp_EF_31 hR.2.2.2.2 rfl rfl (by decide) rfl rfl (Nat.le_of_ble_eq_true rfl) (fun w hT => ?_)
  refine q_aload hX 0 d_EF_init_54 rfl (by first | rfl | assumption) ?_
  refine r_newT (bc' := 4) (bs' := 6) hX hT d_EF_init_55 nw_EF_35 (by decide) (by decide) (fun w hT => ?_)
  refine r_dup hX d_EF_init_58 rfl ?_
  refine q_aload hX 0 d_EF_init_59 rfl (by first | rfl | assumption) ?_
  refine r_getf hX d_EF_init_60 fl_EF_14 (hT.2 _ _ rfl) rfl ?_
  refine q_aload hX 0 d_EF_init_63 rfl (by first | rfl | assumption) ?_
  refine r_getf hX d_EF_init_64 fl_EF_31 (hT.2 _ _ rfl) rfl ?_
  refine r_callI (as := [_, _]) hX d_EF_init_67 lk_EF_37 rfl (Nat.le_of_ble_eq_true rfl) (by decide) 4 6 (by decide) (by decide) (c_Re_init_112 (G := G) hT) (fun v w hq => ?_)
  obtain ⟨rfl, hT⟩ := hq
  refine r_putFT hX hT d_EF_init_70 fp_EF_40 hR.2.2.2.2 rfl rfl (by decide) rfl rfl (Nat.le_of_ble_eq_true rfl) (fun w hT => ?_)
  refine q_aload hX 0 d_EF_init_73 rfl (by first | rfl | assumption) ?_
  refine r_newT (bc' := 3) (bs' := 3) hX hT d_EF_init_74 nw_EF_44 (by decide) (by decide) (fun w hT => ?_)
  refine r_dup hX d_EF_init_77 rfl ?_
  refine q_aload hX 0 d_EF_init_78 rfl (by first | rfl | assumption) ?_
  refine r_getf hX d_EF_init_79 fl_EF_31 (hT.2 _ _ rfl) rfl ?_
  refine q_aload hX 0 d_EF_init_82 rfl (by first | rfl | assumption) ?_
  refine r_getf hX d_EF_init_83 fl_EF_18 (hT.2 _ _ rfl) rfl ?_
  refine r_callI (as := [_, _]) hX d_EF_init_86 lk_EF_46 rfl (Nat.le_of_ble_eq_true rfl) (by decide) 1 1 (by decide) (by decide) (c_Wr_init_113 (G := G) hT) (fun v w hq => ?_)
  obtain ⟨rfl, hT⟩ := hq
  refine r_putFT hX hT d_EF_init_89 fp_EF_49 hR.2.2.2.2 rfl rfl (by decide) rfl rfl (Nat.le_of_ble_eq_true rfl) (fun w hT => ?_)
  refine q_aload hX 0 d_EF_init_92 rfl (by first | rfl | assumption) ?_
  refine r_newT (bc' := 0) (bs' := 0) hX hT d_EF_init_93 nw_EF_53 (by decide) (by decide) (fun w hT => ?_)
  refine r_dup hX d_EF_init_96 rfl ?_
  refine q_aload hX 0 d_EF_init_97 rfl (by first | rfl | assumption) ?_
  refine r_getf hX d_EF_init_98 fl_EF_31 (hT.2 _ _ rfl) rfl ?_
  refine r_callI (as := [_]) hX d_EF_init_101 lk_EF_55 rfl (Nat.le_of_ble_eq_true rfl) (by decide) 0 0 (by decide) (by decide) (c_Fi_init_116 (G := G) hT) (fun v w hq => ?_)
  obtain ⟨rfl, hT⟩ := hq
  refine r_putFT hX hT d_EF_init_104 fp_EF_58 hR.2.2.2.2 rfl rfl (by decide) rfl rfl (Nat.le_of_ble_eq_true rfl) (fun w hT => ?_)
  refine r_vret hX hR d_EF_init_107 rfl ?_
  exact ⟨rfl, hT⟩
theorem c_Mo_init_117 {G : Ev_G} {w : Ev_W} {L : List (Nat × Ev_K)} (hT : wt w 118 ((117, .inr (8, [.int 0, .null, .null, .null, .null, .null, .null, .null, .null, .null, .null, .null, .null, .int 0, .int 0, .null, .null, .int 0, .null, .int 0, .null, .int 0, .int 0, .int 0, .int 0, .long 0, .int 0, .int 0, .null, .null, .null, .null, .null])) :: L)) : ev_Met G M_Mo_init 1 21 5242 [.ref 117] w (fun v w' => v = none ∧ wt w' 139 ((117, .inr (8, [.int 0, .ref 118, .ref 119, .ref 120, .ref 121, .ref 122, .ref 123, .ref 124, .ref 125, .ref 126, .ref 127, .ref 128, .ref 129, .int 0, .int 0, .ref 130, .ref 131, .int 0, .ref 132, .int 0, .ref 133, .int 0, .int (-1), .int 0, .int 0, .long 0, .int 0, .int 0, .ref 134, .ref 135, .ref 136, .ref 137, .ref 138])) :: (138, .inl (0, 61, .inl (fun _ => 0))) :: (117, .inr (8, [.int 0, .ref 118, .ref 119, .ref 120, .ref 121, .ref 122, .ref 123, .ref 124, .ref 125, .ref 126, .ref 127, .ref 128, .ref 129, .int 0, .int 0, .ref 130, .ref 131, .int 0, .ref 132, .int 0, .ref 133, .int 0, .int (-1), .int 0, .int 0, .long 0, .int 0, .int 0, .ref 134, .ref 135, .ref 136, .ref 137, .null])) :: (137, .inl (0, 61, .inl (fun _ => 0))) :: (117, .inr (8, [.int 0, .ref 118, .ref 119, .ref 120, .ref 121, .ref 122, .ref 123, .ref 124, .ref 125, .ref 126, .ref 127, .ref 128, .ref 129, .int 0, .int 0, .ref 130, .ref 131, .int 0, .ref 132, .int 0, .ref 133, .int 0, .int (-1), .int 0, .int 0, .long 0, .int 0, .int 0, .ref 134, .ref 135, .ref 136, .null, .null])) :: (136, .inl (2, 8, .inl (fun _ => 0))) :: (117, .inr (8, [.int 0, .ref 118, .ref 119, .ref 120, .ref 121, .ref 122, .ref 123, .ref 124, .ref 125, .ref 126, .ref 127, .ref 128, .ref 129, .int 0, .int 0, .ref 130, .ref 131, .int 0, .ref 132, .int 0, .ref 133, .int 0, .int (-1), .int 0, .int 0, .long 0, .int 0, .int 0, .ref 134, .ref 135, .null, .null, .null])) :: (135, .inl (0, 8, .inl (fun _ => 0))) :: (117, .inr (8, [.int 0, .ref 118, .ref 119, .ref 120, .ref 121, .ref 122, .ref 123, .ref 124, .ref 125, .ref 126, .ref 127, .ref 128, .ref 129, .int 0, .int 0, .ref 130, .ref 131, .int 0, .ref 132, .int 0, .ref 133, .int 0, .int (-1), .int 0, .int 0, .long 0, .int 0, .int 0, .ref 134, .null, .null, .null, .null])) :: (134, .inl (0, 8, .inl (fun _ => 0))) :: (117, .inr (8, [.int 0, .ref 118, .ref 119, .ref 120, .ref 121, .ref 122, .ref 123, .ref 124, .ref 125, .ref 126, .ref 127, .ref 128, .ref 129, .int 0, .int 0, .ref 130, .ref 131, .int 0, .ref 132, .int 0, .ref 133, .int 0, .int (-1), .int 0, .int 0, .long 0, .int 0, .int 0, .null, .null, .null, .null, .null])) :: (117, .inr (8, [.int 0, .ref 118, .ref 119, .ref 120, .ref 121, .ref 122, .ref 123, .ref 124, .ref 125, .ref 126, .ref 127, .ref 128, .ref 129, .int 0, .int 0, .ref 130, .ref 131, .int 0, .ref 132, .int 0, .ref 133, .int 0, .int 0, .int 0, .int 0, .long 0, .int 0, .int 0, .null, .null, .null, .null, .null])) :: (133, .inl (0, 700, .inl (fun _ => 0))) :: (117, .inr (8, [.int 0, .ref 118, .ref 119, .ref 120, .ref 121, .ref 122, .ref 123, .ref 124, .ref 125, .ref 126, .ref 127, .ref 128, .ref 129, .int 0, .int 0, .ref 130, .ref 131, .int 0, .ref 132, .int 0, .null, .int 0, .int 0, .int 0, .int 0, .long 0, .int 0, .int 0, .null, .null, .null, .null, .null])) :: (132, .inl (0, 640, .inl (fun _ => 0))) :: (117, .inr (8, [.int 0, .ref 118, .ref 119, .ref 120, .ref 121, .ref 122, .ref 123, .ref 124, .ref 125, .ref 126, .ref 127, .ref 128, .ref 129, .int 0, .int 0, .ref 130, .ref 131, .int 0, .null, .int 0, .null, .int 0, .int 0, .int 0, .int 0, .long 0, .int 0, .int 0, .null, .null, .null, .null, .null])) :: (131, .inl (0, 8, .inl (fun _ => 0))) :: (117, .inr (8, [.int 0, .ref 118, .ref 119, .ref 120, .ref 121, .ref 122, .ref 123, .ref 124, .ref 125, .ref 126, .ref 127, .ref 128, .ref 129, .int 0, .int 0, .ref 130, .null, .int 0, .null, .int 0, .null, .int 0, .int 0, .int 0, .int 0, .long 0, .int 0, .int 0, .null, .null, .null, .null, .null])) :: (130, .inl (0, 8, .inl (fun _ => 0))) :: (117, .inr (8, [.int 0, .ref 118, .ref 119, .ref 120, .ref 121, .ref 122, .ref 123, .ref 124, .ref 125, .ref 126, .ref 127, .ref 128, .ref 129, .int 0, .int 0, .null, .null, .int 0, .null, .int 0, .null, .int 0, .int 0, .int 0, .int 0, .long 0, .int 0, .int 0, .null, .null, .null, .null, .null])) :: (129, .inl (0, 1300, .inl (fun _ => 0))) :: (117, .inr (8, [.int 0, .ref 118, .ref 119, .ref 120, .ref 121, .ref 122, .ref 123, .ref 124, .ref 125, .ref 126, .ref 127, .ref 128, .null, .int 0, .int 0, .null, .null, .int 0, .null, .int 0, .null, .int 0, .int 0, .int 0, .int 0, .long 0, .int 0, .int 0, .null, .null, .null, .null, .null])) :: (128, .inl (0, 488, .inl (fun _ => 0))) :: (117, .inr (8, [.int 0, .ref 118, .ref 119, .ref 120, .ref 121, .ref 122, .ref 123, .ref 124, .ref 125, .ref 126, .ref 127, .null, .null, .int 0, .int 0, .null, .null, .int 0, .null, .int 0, .null, .int 0, .int 0, .int 0, .int 0, .long 0, .int 0, .int 0, .null, .null, .null, .null, .null])) :: (127, .inl (0, 488, .inl (fun _ => 0))) :: (117, .inr (8, [.int 0, .ref 118, .ref 119, .ref 120, .ref 121, .ref 122, .ref 123, .ref 124, .ref 125, .ref 126, .null, .null, .null, .int 0, .int 0, .null, .null, .int 0, .null, .int 0, .null, .int 0, .int 0, .int 0, .int 0, .long 0, .int 0, .int 0, .null, .null, .null, .null, .null])) :: (126, .inl (0, 61, .inl (fun _ => 0))) :: (117, .inr (8, [.int 0, .ref 118, .ref 119, .ref 120, .ref 121, .ref 122, .ref 123, .ref 124, .ref 125, .null, .null, .null, .null, .int 0, .int 0, .null, .null, .int 0, .null, .int 0, .null, .int 0, .int 0, .int 0, .int 0, .long 0, .int 0, .int 0, .null, .null, .null, .null, .null])) :: (125, .inl (2, 61, .inl (fun _ => 0))) :: (117, .inr (8, [.int 0, .ref 118, .ref 119, .ref 120, .ref 121, .ref 122, .ref 123, .ref 124, .null, .null, .null, .null, .null, .int 0, .int 0, .null, .null, .int 0, .null, .int 0, .null, .int 0, .int 0, .int 0, .int 0, .long 0, .int 0, .int 0, .null, .null, .null, .null, .null])) :: (124, .inl (0, 61, .inl (fun _ => 0))) :: (117, .inr (8, [.int 0, .ref 118, .ref 119, .ref 120, .ref 121, .ref 122, .ref 123, .null, .null, .null, .null, .null, .null, .int 0, .int 0, .null, .null, .int 0, .null, .int 0, .null, .int 0, .int 0, .int 0, .int 0, .long 0, .int 0, .int 0, .null, .null, .null, .null, .null])) :: (123, .inl (0, 61, .inl (fun _ => 0))) :: (117, .inr (8, [.int 0, .ref 118, .ref 119, .ref 120, .ref 121, .ref 122, .null, .null, .null, .null, .null, .null, .null, .int 0, .int 0, .null, .null, .int 0, .null, .int 0, .null, .int 0, .int 0, .int 0, .int 0, .long 0, .int 0, .int 0, .null, .null, .null, .null, .null])) :: (122, .inl (0, 976, .inl (fun _ => 0))) :: (117, .inr (8, [.int 0, .ref 118, .ref 119, .ref 120, .ref 121, .null, .null, .null, .null, .null, .null, .null, .null, .int 0, .int 0, .null, .null, .int 0, .null, .int 0, .null, .int 0, .int 0, .int 0, .int 0, .long 0, .int 0, .int 0, .null, .null, .null, .null, .null])) :: (121, .inl (0, 61, .inl (fun _ => 0))) :: (117, .inr (8, [.int 0, .ref 118, .ref 119, .ref 120, .null, .null, .null, .null, .null, .null, .null, .null, .null, .int 0, .int 0, .null, .null, .int 0, .null, .int 0, .null, .int 0, .int 0, .int 0, .int 0, .long 0, .int 0, .int 0, .null, .null, .null, .null, .null])) :: (120, .inl (1, 61, .inr (.inl (fun _ => 0)))) :: (117, .inr (8, [.int 0, .ref 118, .ref 119, .null, .null, .null, .null, .null, .null, .null, .null, .null, .null, .int 0, .int 0, .null, .null, .int 0, .null, .int 0, .null, .int 0, .int 0, .int 0, .int 0, .long 0, .int 0, .int 0, .null, .null, .null, .null, .null])) :: (119, .inl (0, 61, .inl (fun _ => 0))) :: (117, .inr (8, [.int 0, .ref 118, .null, .null, .null, .null, .null, .null, .null, .null, .null, .null, .null, .int 0, .int 0, .null, .null, .int 0, .null, .int 0, .null, .int 0, .int 0, .int 0, .int 0, .long 0, .int 0, .int 0, .null, .null, .null, .null, .null])) :: (118, .inl (0, 61, .inl (fun _ => 0))) :: (117, .inr (8, [.int 0, .null, .null, .null, .null, .null, .null, .null, .null, .null, .null, .null, .null, .int 0, .int 0, .null, .null, .int 0, .null, .int 0, .null, .int 0, .int 0, .int 0, .int 0, .long 0, .int 0, .int 0, .null, .null, .null, .null, .null])) :: L)) := by
  refine ev_Met.of md_Mo_init (Nat.le_of_ble_eq_true rfl) (fun X hX hR => ?_)
  refine q_aload hX 0 d_Mo_init_0 rfl (by first | rfl | assumption) ?_
  refine r_objI hX d_Mo_init_1 ol_Mo_1 (by decide) (Nat.le_of_ble_eq_true rfl) ?_
  refine q_aload hX 0 d_Mo_init_4 rfl (by first | rfl | assumption) ?_
  refine r_bipush (v := 61) hX d_Mo_init_5 (by decide) ?_
  refine r_newaT (bc' := 20) (bs' := 5181) (k := 0) (N := 61) (e0 := .inl (fun _ => 0)) hX hT d_Mo_init_7 rfl m_94 rfl rfl (fun G => ⟨rfl, rfl⟩) (by decide) (by decide) (by decide) (by decide) (by decide) (fun w hT => ?_)
  refine r_putFT hX hT d_Mo_init_9 fp_Mo_7 hR.2.2.2.2 rfl rfl (by decide) rfl rfl (Nat.le_of_ble_eq_true rfl) (fun w hT => ?_)
  refine q_aload hX 0 d_Mo_init_12 rfl (by first | rfl | assumption) ?_
  refine r_bipush (v := 61) hX d_Mo_init_13 (by decide) ?_
  refine r_newaT (bc' := 19) (bs' := 5120) (k := 0) (N := 61) (e0 := .inl (fun _ => 0)) hX hT d_Mo_init_15 rfl m_94 rfl rfl (fun G => ⟨rfl, rfl⟩) (by decide) (by decide) (by decide) (by decide) (by decide) (fun w hT => ?_)
  refine r_putFT hX hT d_Mo_init_17 fp_Mo_13 hR.2.2.2.2 rfl rfl (by decide) rfl rfl (Nat.le_of_ble_eq_true rfl) (fun w hT => ?_)
  refine q_aload hX 0 d_Mo_init_20 rfl (by first | rfl | assumption) ?_
  refine r_bipush (v := 61) hX d_Mo_init_21 (by decide) ?_
  refine r_newaT (bc' := 18) (bs' := 5059) (k := 1) (N := 61) (e0 := .inr (.inl (fun _ => 0))) hX hT d_Mo_init_23 rfl m_643 rfl rfl (fun G => ⟨rfl, rfl⟩) (by decide) (by decide) (by decide) (by decide) (by decide) (fun w hT => ?_)
  refine r_putFT hX hT d_Mo_init_25 fp_Mo_16 hR.2.2.2.2 rfl rfl (by decide) rfl rfl (Nat.le_of_ble_eq_true rfl) (fun w hT => ?_)
  refine q_aload hX 0 d_Mo_init_28 rfl (by first | rfl | assumption) ?_
  refine r_bipush (v := 61) hX d_Mo_init_29 (by decide) ?_
  refine r_newaT (bc' := 17) (bs' := 4998) (k := 0) (N := 61) (e0 := .inl (fun _ => 0)) hX hT d_Mo_init_31 rfl m_94 rfl rfl (fun G => ⟨rfl, rfl⟩) (by decide) (by decide) (by decide) (by decide) (by decide) (fun w hT => ?_)
  refine r_putFT hX hT d_Mo_init_33 fp_Mo_20 hR.2.2.2.2 rfl rfl (by decide) rfl rfl (Nat.le_of_ble_eq_true rfl) (fun w hT => ?_)
  refine q_aload hX 0 d_Mo_init_36 rfl (by first | rfl | assumption) ?_
  refine r_sipush (v := 976) hX d_Mo_init_37 (by decide) ?_
  refine r_newaT (bc' := 16) (bs' := 4022) (k := 0) (N := 976) (e0 := .inl (fun _ => 0)) hX hT d_Mo_init_40 rfl m_94 rfl rfl (fun G => ⟨rfl, rfl⟩) (by decide) (by decide) (by decide) (by decide) (by decide) (fun w hT => ?_)
  refine r_putFT hX hT d_Mo_init_42 fp_Mo_23 hR.2.2.2.2 rfl rfl (by decide) rfl rfl (Nat.le_of_ble_eq_true rfl) (fun w hT => ?_)
  refine q_aload hX 0 d_Mo_init_45 rfl (by first | rfl | assumption) ?_
  refine r_bipush (v := 61) hX d_Mo_init_46 (by decide) ?_
  refine r_newaT (bc' := 15) (bs' := 3961) (k := 0) (N := 61) (e0 := .inl (fun _ => 0)) hX hT d_Mo_init_48 rfl m_94 rfl rfl (fun G => ⟨rfl, rfl⟩) (by decide) (by decide) (by decide) (by decide) (by decide) (fun w hT => ?_)
  refine r_putFT hX hT d_Mo_init_50 fp_Mo_26 hR.2.2.2.2 rfl rfl (by decide) rfl rfl (Nat.le_of_ble_eq_true rfl) (fun w hT => ?_)
  refine q_aload hX 0 d_Mo_init_53 rfl (by first | rfl | assumption) ?_
  refine r_bipush (v := 61) hX d_Mo_init_54 (by decide) ?_
  refine r_newaT (bc' := 14) (bs' := 3900) (k := 0) (N := 61) (e0 := .inl (fun _ => 0)) hX hT d_Mo_init_56 rfl m_94 rfl rfl (fun G => ⟨rfl, rfl⟩) (by decide) (by decide) (by decide) (by decide) (by decide) (fun w hT => ?_)
  refine r_putFT hX hT d_Mo_init_58 fp_Mo_29 hR.2.2.2.2 rfl rfl (by decide) rfl rfl (Nat.le_of_ble_eq_true rfl) (fun w hT => ?_)
  refine q_aload hX 0 d_Mo_init_61 rfl (by first | rfl | assumption) ?_
  refine r_bipush (v := 61) hX d_Mo_init_62 (by decide) ?_
  refine r_newaT (bc' := 13) (bs' := 3839) (k := 2) (N := 61) (e0 := .inl (fun _ => 0)) hX hT d_Mo_init_64 rfl m_644 rfl rfl (fun G => ⟨rfl, rfl⟩) (by decide) (by decide) (by decide) (by decide) (by decide) (fun w hT => ?_)
  refine r_putFT hX hT d_Mo_init_66 fp_Mo_32 hR.2.2.2.2 rfl rfl (by decide) rfl rfl (Nat.le_of_ble_eq_true rfl) (fun w hT => ?_)
  refine q_aload hX 0 d_Mo_init_69 rfl (by first | rfl | assumption) ?_
  refine r_bipush (v := 61) hX d_Mo_init_70 (by decide) ?_
  refine r_newaT (bc' := 12) (bs' := 3778) (k := 0) (N := 61) (e0 := .inl (fun _ => 0)) hX hT d_Mo_init_72 rfl m_94 rfl rfl (fun G => ⟨rfl, rfl⟩) (by decide) (by decide) (by decide) (by decide) (by decide) (fun w hT => ?_)
  refine r_putFT hX hT d_Mo_init_74 fp_Mo_36 hR.2.2.2.2 rfl rfl (by decide) rfl rfl (Nat.le_of_ble_eq_true rfl) (fun w hT => ?_)
  refine q_aload hX 0 d_Mo_init_77 rfl (by first | rfl | assumption) ?_
  refine r_sipush (v := 488) hX d_Mo_init_78 (by decide) ?_
  refine r_newaT (bc' := 11) (bs' := 3290) (k := 0) (N := 488) (e0 := .inl (fun _ => 0)) hX hT d_Mo_init_81 rfl m_94 rfl rfl (fun G => ⟨rfl, rfl⟩) (by decide) (by decide) (by decide) (by decide) (by decide) (fun w hT => ?_)
  refine r_putFT hX hT d_Mo_init_83 fp_Mo_39 hR.2.2.2.2 rfl rfl (by decide) rfl rfl (Nat.le_of_ble_eq_true rfl) (fun w hT => ?_)
  refine q_aload hX 0 d_Mo_init_86 rfl (by first | rfl | assumption) ?_
  refine r_sipush (v := 488) hX d_Mo_init_87 (by decide) ?_
  refine r_newaT (bc' := 10) (bs' := 2802) (k := 0) (N := 488) (e0 := .inl (fun _ => 0)) hX hT d_Mo_init_90 rfl m_94 rfl rfl (fun G => ⟨rfl, rfl⟩) (by decide) (by decide) (by decide) (by decide) (by decide) (fun w hT => ?_)
  refine r_putFT hX hT d_Mo_init_92 fp_Mo_42 hR.2.2.2.2 rfl rfl (by decide) rfl rfl (Nat.le_of_ble_eq_true rfl) (fun w hT => ?_)
  refine q_aload hX 0 d_Mo_init_95 rfl (by first | rfl | assumption) ?_
  refine r_sipush (v := 1300) hX d_Mo_init_96 (by decide) ?_
  refine r_newaT (bc' := 9) (bs' := 1502) (k := 0) (N := 1300) (e0 := .inl (fun _ => 0)) hX hT d_Mo_init_99 rfl m_94 rfl rfl (fun G => ⟨rfl, rfl⟩) (by decide) (by decide) (by decide) (by decide) (by decide) (fun w hT => ?_)
  refine r_putFT hX hT d_Mo_init_101 fp_Mo_45 hR.2.2.2.2 rfl rfl (by decide) rfl rfl (Nat.le_of_ble_eq_true rfl) (fun w hT => ?_)
  refine q_aload hX 0 d_Mo_init_104 rfl (by first | rfl | assumption) ?_
  refine r_bipush (v := 8) hX d_Mo_init_105 (by decide) ?_
  refine r_newaT (bc' := 8) (bs' := 1494) (k := 0) (N := 8) (e0 := .inl (fun _ => 0)) hX hT d_Mo_init_107 rfl m_94 rfl rfl (fun G => ⟨rfl, rfl⟩) (by decide) (by decide) (by decide) (by decide) (by decide) (fun w hT => ?_)
  refine r_putFT hX hT d_Mo_init_109 fp_Mo_48 hR.2.2.2.2 rfl rfl (by decide) rfl rfl (Nat.le_of_ble_eq_true rfl) (fun w hT => ?_)
  refine q_aload hX 0 d_Mo_init_112 rfl (by first | rfl | assumption) ?_
  refine r_bipush (v := 8) hX d_Mo_init_113 (by decide) ?_
  refine r_newaT (bc' := 7) (bs' := 1486) (k := 0) (N := 8) (e0 := .inl (fun _ => 0)) hX hT d_Mo_init_115 rfl m_94 rfl rfl (fun G => ⟨rfl, rfl⟩) (by decide) (by decide) (by decide) (by decide) (by decide) (fun w hT => ?_)
  refine r_putFT hX hT d_Mo_init_117 fp_Mo_51 hR.2.2.2.2 rfl rfl (by decide) rfl rfl (Nat.le_of_ble_eq_true rfl) (fun w hT => ?_)
  refine q_aload hX 0 d_Mo_init_120 rfl (by first | rfl | assumption) ?_
  refine r_sipush (v := 640) hX d_Mo_init_121 (by decide) ?_
  refine r_newaT (bc' := 6) (bs' := 846) (k := 0) (N := 640) (e0 := .inl (fun _ => 0)) hX hT d_Mo_init_124 rfl m_94 rfl rfl (fun G => ⟨rfl, rfl⟩) (by decide) (by decide) (by decide) (by decide) (by decide) (fun w hT => ?_)
  refine r_putFT hX hT d_Mo_init_126 fp_Mo_54 hR.2.2.2.2 rfl rfl (by decide) rfl rfl (Nat.le_of_ble_eq_true rfl) (fun w hT => ?_)
  refine q_aload hX 0 d_Mo_init_129 rfl (by first | rfl | assumption) ?_
  refine r_sipush (v := 700) hX d_Mo_init_130 (by decide) ?_
  refine r_newaT (bc' := 5) (bs' := 146) (k := 0) (N := 700) (e0 := .inl (fun _ => 0)) hX hT d_Mo_init_133 rfl m_94 rfl rfl (fun G => ⟨rfl, rfl⟩) (by decide) (by decide) (by decide) (by decide) (by decide) (fun w hT => ?_)
  refine r_putFT hX hT d_Mo_init_135 fp_Mo_57 hR.2.2.2.2 rfl rfl (by decide) rfl rfl (Nat.le_of_ble_eq_true rfl) (fun w hT => ?_)
  refine q_aload hX 0 d_Mo_init_138 rfl (by first | rfl | assumption) ?_
  refine r_iconst (v := -1) hX d_Mo_init_139 (by decide) ?_
  refine r_putfT hX hT d_Mo_init_140 fp_Mo_60 rfl (by decide) rfl rfl (Nat.le_of_ble_eq_true rfl) (fun w hT => ?_)
  refine q_aload hX 0 d_Mo_init_143 rfl (by first | rfl | assumption) ?_
  refine r_bipush (v := 8) hX d_Mo_init_144 (by decide) ?_
  refine r_newaT (bc' := 4) (bs' := 138) (k := 0) (N := 8) (e0 := .inl (fun _ => 0)) hX hT d_Mo_init_146 rfl m_94 rfl rfl (fun G => ⟨rfl, rfl⟩) (by decide) (by decide) (by decide) (by decide) (by decide) (fun w hT => ?_)
  refine r_putFT hX hT d_Mo_init_148 fp_Mo_64 hR.2.2.2.2 rfl rfl (by decide) rfl rfl (Nat.le_of_ble_eq_true rfl) (fun w hT => ?_)
  refine q_aload hX 0 d_Mo_init_151 rfl (by first | rfl | assumption) ?_
  refine r_bipush (v := 8) hX d_Mo_init_152 (by decide) ?_
  refine r_newaT (bc' := 3) (bs' := 130) (k := 0) (N := 8) (e0 := .inl (fun _ => 0)) hX hT d_Mo_init_154 rfl m_94 rfl rfl (fun G => ⟨rfl, rfl⟩) (by decide) (by decide) (by decide) (by decide) (by decide) (fun w hT => ?_)
  refine r_putFT hX hT d_Mo_init_156 fp_Mo_67 hR.2.2.2.2 rfl rfl (by decide) rfl rfl (Nat.le_of_ble_eq_true rfl) (fun w hT => ?_)
  refine q_aload hX 0 d_Mo_init_159 rfl (by first | rfl | assumption) ?_
  refine r_bipush (v := 8) hX d_Mo_init_160 (by decide) ?_
  refine r_newaT (bc' := 2) (bs' := 122) (k := 2) (N := 8) (e0 := .inl (fun _ => 0)) hX hT d_Mo_init_162 rfl m_644 rfl rfl (fun G => ⟨rfl, rfl⟩) (by decide) (by decide) (by decide) (by decide) (by decide) (fun w hT => ?_)
  refine r_putFT hX hT d_Mo_init_164 fp_Mo_70 hR.2.2.2.2 rfl rfl (by decide) rfl rfl (Nat.le_of_ble_eq_true rfl) (fun w hT => ?_)
  refine q_aload hX 0 d_Mo_init_167 rfl (by first | rfl | assumption) ?_
  refine r_bipush (v := 61) hX d_Mo_init_168 (by decide) ?_
  refine r_newaT (bc' := 1) (bs' := 61) (k := 0) (N := 61) (e0 := .inl (fun _ => 0)) hX hT d_Mo_init_170 rfl m_94 rfl rfl (fun G => ⟨rfl, rfl⟩) (by decide) (by decide) (by decide) (by decide) (by decide) (fun w hT => ?_)
  refine r_putFT hX hT d_Mo_init_172 fp_Mo_73 hR.2.2.2.2 rfl rfl (by decide) rfl rfl (Nat.le_of_ble_eq_true rfl) (fun w hT => ?_)
  refine q_aload hX 0 d_Mo_init_175 rfl (by first | rfl | assumption) ?_
  refine r_bipush (v := 61) hX d_Mo_init_176 (by decide) ?_
  refine r_newaT (bc' := 0) (bs' := 0) (k := 0) (N := 61) (e0 := .inl (fun _ => 0)) hX hT d_Mo_init_178 rfl m_94 rfl rfl (fun G => ⟨rfl, rfl⟩) (by decide) (by decide) (by decide) (by decide) (by decide) (fun w hT => ?_)
  refine r_putFT hX hT d_Mo_init_180 fp_Mo_76 hR.2.2.2.2 rfl rfl (by decide) rfl rfl (Nat.le_of_ble_eq_true rfl) (fun w hT => ?_)
  refine r_vret hX hR d_Mo_init_183 rfl ?_
  exact ⟨rfl, hT⟩
