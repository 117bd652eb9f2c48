/-! ===== ElementFiles: the calls that look ===== -/
def is_EF (w : Ev_W) : Prop := w.2 100 = some (.inr (0, [.ref 101, .ref 103, .ref 105, .ref 108, .ref 112, .ref 113, .ref 116]))
/-- a number as a place among n -/
def ix (n : Nat) (k : Int32) : Option Nat := if 0 ≤ k.toInt ∧ k.toInt < n then some k.toNatClampNeg else none
theorem ix_cases {n : Nat} (hn : n < 2 ^ 31) (k : Int32) : (∃ j, j < n ∧ k = nI j ∧ ix n k = some j) ∨ (ix n k = none ∧ ¬ (0 ≤ k.toInt ∧ k.toInt < n)) := by
  by_cases h : 0 ≤ k.toInt ∧ k.toInt < n
  · obtain ⟨j, hj, e⟩ := vp_in_of (vp_in_iff.mpr h) hn
    exact Or.inl ⟨j, hj, e, by rw [ix, if_pos h, e, nI_clamp (by omega)]⟩
  · exact Or.inr ⟨by rw [ix, if_neg h], h⟩
theorem tr_at_cases {w : Ev_W} {n m : Nat} {L : Nat → Option Nat} {ad : Nat → Nat} {E : Nat → Ev_E} {PF : Nat → Nat → Int32} (hn : n ≤ 60) (hes : is_Es w m L ad E PF) (hm : n ≤ m) (k : Int32) : (∃ j, j < n ∧ k = nI j ∧ ix n k = some j ∧ tr_at n L k = some (ad j)) ∨ (ix n k = none ∧ tr_at n L k = none) := by
  rcases ix_cases (n := n) (by omega) k with ⟨j, h1, h2, h3⟩ | ⟨h1, h2⟩
  · refine Or.inl ⟨j, h1, h2, h3, ?_⟩
    have h4 : 0 ≤ k.toInt ∧ k.toInt < n := by rw [h2, nI_toInt (by omega)]; omega
    rw [tr_at, if_pos h4, h2, nI_clamp (by omega)]
    exact (hes.1 j (by omega)).1
  · exact Or.inr ⟨h1, by rw [tr_at, if_neg h2]⟩
def so_fm (i : Nat) : Int32 := ((ev_fl[1]).2.2.2).getD i 0
theorem so_fm_c : ∀ i : Nat, i < 17 → so_fm i = 0 ∨ so_fm i = 1 ∨ so_fm i = 2 ∨ so_fm i = 3 ∨ so_fm i = 4 ∨ so_fm i = 5 ∨ so_fm i = 6 := by
  have h : ∀ i : Fin 17, so_fm i.val = 0 ∨ so_fm i.val = 1 ∨ so_fm i.val = 2 ∨ so_fm i.val = 3 ∨ so_fm i.val = 4 ∨ so_fm i.val = 5 ∨ so_fm i.val = 6 := by decide
  intro i hi
  exact h ⟨i, hi⟩
def fd_ok (n : Int32) : Prop := 1 ≤ n.toInt ∧ n.toInt ≤ 8
theorem fd_of {n : Int32} (h : fd_ok n) : ∃ j : Nat, j ≤ 8 ∧ n = nI j := by
  obtain ⟨j, h1, h2⟩ := vp_in_of (x := n) (n := 9) (vp_in_iff.mpr ⟨by have := h.1; omega, by have := h.2; omega⟩) (by decide)
  exact ⟨j, by omega, h2⟩
theorem c_EF_feed {G : Ev_G} {w : Ev_W} {c : Nat} {f : Nat → Int32} (he : is_EF w) (hro : is_Ro w 101 102 640 c f) (hc : c ≤ 640) (x : Int64) (n : Int32) : ev_Met G M_EF_feed 2 0 0 [.ref 100, .long x, .int n] w (fun v w' => (¬ fd_ok n ∧ v = some (.int (-1)) ∧ w' = w) ∨ (fd_ok n ∧ 640 < (c : Int) + n.toInt ∧ v = some (.int (-8)) ∧ w' = w) ∨ (fd_ok n ∧ (c : Int) + n.toInt ≤ 640 ∧ v = some (.int (nI (c + n.toNatClampNeg))) ∧ is_Ro w' 101 102 640 (c + n.toNatClampNeg) (ro_num 640 x n.toNatClampNeg f c) ∧ ev_sm w w' [101, 102])) := by
  refine ev_Met.of md_EF_feed (Nat.le_of_ble_eq_true rfl) (fun X hX hR => ?_)
  refine q_iload hX 3 d_EF_feed_0 rfl (by first | rfl | assumption) ?_
  refine r_iconst (v := 1) hX d_EF_feed_1 (by decide) ?_
  refine r_icmp_lt hX 11 d_EF_feed_2 (by decide) (fun c2 => ?_) (fun c2 => ?_)
  · refine r_iconst (v := -1) hX d_EF_feed_11 (by decide) ?_
    refine r_iret hX hR d_EF_feed_12 rfl (by first | rfl | assumption) ?_
    exact Or.inl ⟨by intro z; have := z.1; have := z.2; rw [i_lt, show (1 : Int32).toInt = 1 from rfl] at c2; omega, rfl, rfl⟩
  · refine q_iload hX 3 d_EF_feed_5 rfl (by first | rfl | assumption) ?_
    refine r_bipush (v := 8) hX d_EF_feed_6 (by decide) ?_
    refine r_icmp_le hX 13 d_EF_feed_8 (by decide) (fun c8 => ?_) (fun c8 => ?_)
    · refine q_aload hX 0 d_EF_feed_13 rfl (by first | rfl | assumption) ?_
      refine r_getf hX d_EF_feed_14 fl_EF_14 he rfl ?_
      refine r_getf hX d_EF_feed_17 fl_EF_62 hro.1 rfl ?_
      refine q_iload hX 3 d_EF_feed_20 rfl (by first | rfl | assumption) ?_
      refine r_iadd hX d_EF_feed_21 ?_
      refine r_sipush (v := 640) hX d_EF_feed_22 (by decide) ?_
      refine r_icmp_le hX 31 d_EF_feed_25 (by decide) (fun c25 => ?_) (fun c25 => ?_)
      · refine q_aload hX 0 d_EF_feed_31 rfl (by first | rfl | assumption) ?_
        refine r_getf hX d_EF_feed_32 fl_EF_14 he rfl ?_
        refine q_lload hX 1 d_EF_feed_35 rfl (by first | rfl | assumption) ?_
        refine q_iload hX 3 d_EF_feed_36 rfl (by first | rfl | assumption) ?_
        obtain ⟨j, hj, ej⟩ := fd_of (n := n) ⟨by rw [i_lt, show (1 : Int32).toInt = 1 from rfl] at c2; omega, by rw [i_le, show (8 : Int32).toInt = 8 from rfl] at c8; omega⟩
        subst ej
        refine r_callV (as := [_, _]) hX d_EF_feed_37 lk_EF_66 hro.1 rfl rfl (Nat.le_of_ble_eq_true rfl) (by decide) 0 0 (Nat.le_refl _) (Nat.le_refl _) (c_Ro_putNumber (G := G) hro (by decide) (by decide) (by decide) x j (by omega)) (fun v w1 hq => ?_)
        obtain ⟨rfl, h9, hs9⟩ := hq
        refine q_aload hX 0 d_EF_feed_40 rfl (by first | rfl | assumption) ?_
        refine r_getf hX d_EF_feed_41 fl_EF_14 (by rw [hs9.2 100 (by decide)]; exact he) rfl ?_
        refine r_getf hX d_EF_feed_44 fl_EF_62 h9.1 rfl ?_
        refine r_iret hX hR d_EF_feed_47 rfl (by first | rfl | assumption) ?_
        have hb25 : fd_ok (nI j) := ⟨by rw [i_lt, show (1 : Int32).toInt = 1 from rfl] at c2; omega, by rw [i_le, show (8 : Int32).toInt = 8 from rfl] at c8; omega⟩
        have hclj : (nI j).toNatClampNeg = j := nI_clamp (by omega)
        refine Or.inr (Or.inr ⟨hb25, ?_, by rw [hclj], by rw [hclj]; exact h9, hs9⟩)
        rw [i_le, show (640 : Int32).toInt = 640 from rfl, nI_add, nI_toInt (by omega)] at c25
        rw [nI_toInt (by omega)]
        omega
      · refine r_bipush (v := -8) hX d_EF_feed_28 (by decide) ?_
        refine r_iret hX hR d_EF_feed_30 rfl (by first | rfl | assumption) ?_
        have hb25 : fd_ok n := ⟨by rw [i_lt, show (1 : Int32).toInt = 1 from rfl] at c2; omega, by rw [i_le, show (8 : Int32).toInt = 8 from rfl] at c8; omega⟩
        refine Or.inr (Or.inl ⟨hb25, ?_, rfl, rfl⟩)
        obtain ⟨j, hj, ej⟩ := fd_of hb25
        subst ej
        rw [i_le, show (640 : Int32).toInt = 640 from rfl, nI_add, nI_toInt (by omega)] at c25
        rw [nI_toInt (by omega)]
        omega
    · refine r_iconst (v := -1) hX d_EF_feed_11 (by decide) ?_
      refine r_iret hX hR d_EF_feed_12 rfl (by first | rfl | assumption) ?_
      exact Or.inl ⟨by intro z; have := z.1; have := z.2; rw [i_le, show (8 : Int32).toInt = 8 from rfl] at c8; omega, rfl, rfl⟩
theorem c_EF_out {G : Ev_G} {w : Ev_W} {c : Nat} {f : Nat → Int32} (he : is_EF w) (hro : is_Ro w 103 104 640 c f) (hc : c ≤ 640) (i : Int32) : ev_Met G M_EF_out 1 0 0 [.ref 100, .int i] w (fun v w' => v = some (.int (ro_at 640 f c i)) ∧ w' = w) := by
  refine ev_Met.of md_EF_out (Nat.le_of_ble_eq_true rfl) (fun X hX hR => ?_)
  refine q_aload hX 0 d_EF_out_0 rfl (by first | rfl | assumption) ?_
  refine r_getf hX d_EF_out_1 fl_EF_18 he rfl ?_
  refine q_iload hX 1 d_EF_out_4 rfl (by first | rfl | assumption) ?_
  refine r_callV (as := [_]) hX d_EF_out_5 lk_EF_70 hro.1 rfl rfl (Nat.le_of_ble_eq_true rfl) (by decide) 0 0 (Nat.le_refl _) (Nat.le_refl _) (c_Ro_at (G := G) hro (by omega) (by decide) i) (fun v w1 hq => ?_)
  obtain ⟨rfl, rfl⟩ := hq
  refine r_iret hX hR d_EF_out_8 rfl (by first | rfl | assumption) ?_
  exact ⟨rfl, rfl⟩
def is_Re (w : Ev_W) (fp : Int32) (ms : Option Nat) (pl en tg vf vl : Int32) : Prop := w.2 112 = some (.inr (5, [.ref 101, .ref 108, .int fp, va_rf ms, .int pl, .int en, .int tg, .int vf, .int vl]))
theorem c_EF_where {G : Ev_G} {w : Ev_W} (he : is_EF w) {fp pl en tg vf vl : Int32} {ms : Option Nat} (hre : is_Re w fp ms pl en tg vf vl) : ev_Met G M_EF_where 0 0 0 [.ref 100] w (fun v w' => v = some (.int fp) ∧ w' = w) := by
  refine ev_Met.of md_EF_where (Nat.le_of_ble_eq_true rfl) (fun X hX hR => ?_)
  refine q_aload hX 0 d_EF_where_0 rfl (by first | rfl | assumption) ?_
  refine r_getf hX d_EF_where_1 fl_EF_40 he rfl ?_
  refine r_getf hX d_EF_where_4 fl_EF_81 hre rfl ?_
  refine r_iret hX hR d_EF_where_7 rfl (by first | rfl | assumption) ?_
  exact ⟨rfl, rfl⟩
theorem c_EF_clear {G : Ev_G} {w : Ev_W} {n sd : Nat} {L As : Nat → Option Nat} {sf : Nat → Int32} (he : is_EF w) (htr : is_Tr w n L As sf sd) (hn : n ≤ 60) (hsd : sd ≤ 1200) : ev_Met G M_EF_clear 1 0 0 [.ref 100] w (fun v w' => v = none ∧ is_Tr w' 0 L As sf 0 ∧ ev_sm w w' [108]) := by
  refine ev_Met.of md_EF_clear (Nat.le_of_ble_eq_true rfl) (fun X hX hR => ?_)
  refine q_aload hX 0 d_EF_clear_0 rfl (by first | rfl | assumption) ?_
  refine r_getf hX d_EF_clear_1 fl_EF_31 he rfl ?_
  refine r_callV (as := []) hX d_EF_clear_4 lk_EF_84 htr.1 rfl rfl (Nat.le_of_ble_eq_true rfl) (by decide) 0 0 (Nat.le_refl _) (Nat.le_refl _) (c_Tr_empty (G := G) htr hn hsd) (fun v w1 hq => ?_)
  obtain ⟨rfl, h9, hs9⟩ := hq
  refine r_vret hX hR d_EF_clear_7 rfl ?_
  exact ⟨rfl, h9, hs9⟩
def tk_f (i : Nat) (f2 f : Nat → Int32) : Nat → Int32 := fun j => if j < i then f2 j &&& 255 else f j
theorem c_EF_take {G : Ev_G} {w : Ev_W} (he : is_EF w) {c c2 : Nat} {f f2 : Nat → Int32} (h1 : is_Ro w 101 102 640 c f) (h2 : is_Ro w 103 104 640 c2 f2) (hc2 : c2 ≤ 640) (b : Int32) : ev_Met G M_EF_take 1 0 0 [.ref 100, .int b] w (fun v w' => if b = 0 then v = some (.int 0) ∧ is_Ro w' 101 102 640 0 f ∧ ev_sm w w' [101, 102] else v = some (.int (nI c2)) ∧ is_Ro w' 101 102 640 c2 (tk_f c2 f2 f) ∧ ev_sm w w' [101, 102]) := by
  refine ev_Met.of md_EF_take (Nat.le_of_ble_eq_true rfl) (fun X hX hR => ?_)
  have loop : ∀ (k i : Nat) (ls : Ev_L) (w1 : Ev_W), i + k = c2 → is_EF w1 → is_Ro w1 101 102 640 i (tk_f i f2 f) → is_Ro w1 103 104 640 c2 f2 → ev_sm w w1 [101, 102] → ls.1 0 = some (.ref 100) → ls.1 2 = some (.int (nI i)) → ¬ b = 0 → ev_W G M_EF_take X 0 0 14 ls [] w1 := by
    intro k
    induction k with
    | zero =>
      intro i ls w1 e1 g0 g1 g2 g3 l0 l2 hb
      have hi : i = c2 := by omega
      rw [hi] at g1
      refine q_iload hX 2 d_EF_take_14 rfl (by first | rfl | assumption) ?_
      refine q_aload hX 0 d_EF_take_15 rfl (by first | rfl | assumption) ?_
      refine r_getf hX d_EF_take_16 fl_EF_18 g0 rfl ?_
      refine r_getf hX d_EF_take_19 fl_EF_62 g2.1 rfl ?_
      refine r_icmp_ge hX 46 d_EF_take_22 (by decide) (fun _ => ?_) (fun c22 => absurd (nI_le (by omega) (by omega)) c22)
      refine q_aload hX 0 d_EF_take_46 rfl (by first | rfl | assumption) ?_
      refine r_getf hX d_EF_take_47 fl_EF_14 g0 rfl ?_
      refine r_getf hX d_EF_take_50 fl_EF_62 g1.1 rfl ?_
      refine r_iret hX hR d_EF_take_53 rfl (by first | rfl | assumption) ?_
      rw [if_neg hb]; exact ⟨rfl, g1, g3⟩
    | succ k ih =>
      intro i ls w1 e1 g0 g1 g2 g3 l0 l2 hb
      refine q_iload hX 2 d_EF_take_14 rfl (by first | rfl | assumption) ?_
      refine q_aload hX 0 d_EF_take_15 rfl (by first | rfl | assumption) ?_
      refine r_getf hX d_EF_take_16 fl_EF_18 g0 rfl ?_
      refine r_getf hX d_EF_take_19 fl_EF_62 g2.1 rfl ?_
      refine r_icmp_ge hX 46 d_EF_take_22 (by decide) (fun c22 => absurd c22 (nI_ge (by omega) (by omega))) (fun _ => ?_)
      refine q_aload hX 0 d_EF_take_25 rfl (by first | rfl | assumption) ?_
      refine r_getf hX d_EF_take_26 fl_EF_14 g0 rfl ?_
      refine q_aload hX 0 d_EF_take_29 rfl (by first | rfl | assumption) ?_
      refine r_getf hX d_EF_take_30 fl_EF_18 g0 rfl ?_
      refine q_iload hX 2 d_EF_take_33 rfl (by first | rfl | assumption) ?_
      refine r_callV (as := [_]) hX d_EF_take_34 lk_EF_70 g2.1 rfl rfl (Nat.le_of_ble_eq_true rfl) (by decide) 0 0 (Nat.le_refl _) (Nat.le_refl _) (c_Ro_at (G := G) g2 (by omega) (by decide) _) (fun v w2 hq => ?_)
      obtain ⟨rfl, hw⟩ := hq
      rw [hw]
      refine r_callV (as := [_]) hX d_EF_take_37 lk_EF_74 g1.1 rfl rfl (Nat.le_of_ble_eq_true rfl) (by decide) 0 0 (Nat.le_refl _) (Nat.le_refl _) (c_Ro_put (G := G) g1 (by decide) (by decide) (by omega) (by decide) _) (fun v w3 hq => ?_)
      obtain ⟨rfl, q1, q2⟩ := hq
      refine r_iinc hX d_EF_take_40 (by first | rfl | assumption) ?_
      refine r_goto hX 14 d_EF_take_43 (by decide) ?_
      refine ih (i + 1) _ w3 (by omega) (by rw [is_EF, q2.2 100 (by decide)]; exact g0) ?_ (g2.sm q2 (by decide) (by decide)) (g3.tr q2) l0 (by show some (Value.int (nI i + Int32.ofInt 1)) = _; rw [show Int32.ofInt 1 = 1 from rfl, nI_1]) hb
      have hz : ro_p1 640 (tk_f i f2 f) i (ro_at 640 f2 c2 (nI i)) = tk_f (i + 1) f2 f := by
        rw [ro_p1, if_pos (by omega), ro_at, nI_toInt (by omega), if_pos ⟨by omega, by omega, by omega⟩, nI_clamp (by omega)]
        funext j
        unfold upd tk_f
        by_cases z : j = i
        · subst z; rw [if_pos rfl, if_pos (by omega)]
        · rw [if_neg z]
          by_cases z2 : j < i
          · rw [if_pos z2, if_pos (by omega)]
          · rw [if_neg z2, if_neg (by omega)]
      rw [← hz]
      exact q1
  refine q_aload hX 0 d_EF_take_0 rfl (by first | rfl | assumption) ?_
  refine r_getf hX d_EF_take_1 fl_EF_14 he rfl ?_
  refine r_iconst (v := 0) hX d_EF_take_4 (by decide) ?_
  refine r_putf hX d_EF_take_5 fp_EF_62 h1.1 (by first | assumption | decide | omega) rfl rfl (Nat.le_of_ble_eq_true rfl) ?_
  refine q_iload hX 1 d_EF_take_8 rfl (by first | rfl | assumption) ?_
  refine r_if_eq hX 46 d_EF_take_9 (by decide) (fun c9 => ?_) (fun c9 => ?_)
  · refine q_aload hX 0 d_EF_take_46 rfl (by first | rfl | assumption) ?_
    refine r_getf hX d_EF_take_47 fl_EF_14 (by rw [ev_set_ne _ _ (by decide)]; exact he) rfl ?_
    refine r_getf hX d_EF_take_50 fl_EF_62 (by exact ev_set_self _ _ _) rfl ?_
    refine r_iret hX hR d_EF_take_53 rfl (by first | rfl | assumption) ?_
    rw [if_pos c9]
    exact ⟨rfl, ⟨ev_set_self _ _ _, by rw [ev_set_ne _ _ (by decide)]; exact h1.2⟩, ev_sm.s1 (by decide)⟩
  · refine r_iconst (v := 0) hX d_EF_take_12 (by decide) ?_
    refine q_istore hX 2 d_EF_take_13 rfl (by decide) ?_
    refine loop c2 0 _ _ (by omega) (by rw [is_EF, ev_set_ne _ _ (by decide)]; exact he) ⟨ev_set_self _ _ _, ?_⟩ (h2.sm (ev_sm.s1 (l := [101, 102]) (by decide)) (by decide) (by decide)) (ev_sm.s1 (by decide)) rfl rfl c9
    rw [ev_set_ne _ _ (by decide)]
    have hz : tk_f 0 f2 f = f := by funext j; unfold tk_f; rw [if_neg (by omega)]
    rw [hz]; exact h1.2
theorem c_EF_id {G : Ev_G} {w : Ev_W} {n sd : Nat} {L As : Nat → Option Nat} {sf : Nat → Int32} (he : is_EF w) (htr : is_Tr w n L As sf sd) (hn : n ≤ 60) (hsd : sd ≤ 1200) {m : Nat} {ad : Nat → Nat} {E : Nat → Ev_E} {PF : Nat → Nat → Int32} {mi : Nat → Option Nat} (hes : is_Es w m L ad E PF) (hm : n ≤ m) (hok : el_ok n ad E mi) (k : Int32)  : ev_Met G M_EF_id 1 0 0 [.ref 100, .int k] w (fun v w' => v = some (.int (match ix n k with | none => -1 | some j => (E j).2.2.2 0)) ∧ w' = w) := by
  refine ev_Met.of md_EF_id (Nat.le_of_ble_eq_true rfl) (fun X hX hR => ?_)
  rcases tr_at_cases hn hes hm k with ⟨j, hj, hkj, hix, hat⟩ | ⟨hix, hat⟩
  · obtain ⟨u1, u2, u3, u4⟩ := hes.1 j (by omega)
    obtain ⟨o1, o2, o3, o4⟩ := hok j hj
    have he0 : w.2 100 = some (.inr (0, [.ref 101, .ref 103, .ref 105, .ref 108, .ref 112, .ref 113, .ref 116])) := he
    obtain ⟨t1, t2, t3, t4⟩ := id htr
    refine q_aload hX 0 d_EF_id_0 rfl (by first | rfl | assumption) ?_
    refine r_getf hX d_EF_id_1 fl_EF_31 (by first | assumption | exact ev_set_self _ _ _ | (simp (disch := first | assumption | decide | omega) only [ev_set_self, ev_set_ne, ev_new_self, ev_new_ne]; first | done | assumption)) rfl ?_
    refine q_iload hX 1 d_EF_id_4 rfl (by first | rfl | assumption) ?_
    refine r_callV (as := [_]) hX d_EF_id_5 lk_EF_87 htr.1 rfl rfl (Nat.le_of_ble_eq_true rfl) (by decide) 0 0 (Nat.le_refl _) (Nat.le_refl _) (c_Tr_at (G := G) htr hn hsd k) (fun v w1 hq => ?_)
    obtain ⟨rfl, rfl⟩ := hq
    rw [hat]
    refine q_astore hX 2 d_EF_id_8 rfl (by decide) ?_
    refine q_aload hX 2 d_EF_id_9 rfl (by first | rfl | assumption) ?_
    refine r_ifnonnull hX 17 d_EF_id_10 (by decide) ?_
    refine q_aload hX 2 d_EF_id_17 rfl (by first | rfl | assumption) ?_
    refine r_getf hX d_EF_id_18 fl_EF_165 (by first | assumption | exact ev_set_self _ _ _ | (simp (disch := first | assumption | decide | omega) only [ev_set_self, ev_set_ne, ev_new_self, ev_new_ne]; first | done | assumption)) rfl ?_
    refine r_iret hX hR d_EF_id_21 rfl (by first | rfl | assumption) ?_
    exact ⟨by rw [hix], rfl⟩
  · have he0 : w.2 100 = some (.inr (0, [.ref 101, .ref 103, .ref 105, .ref 108, .ref 112, .ref 113, .ref 116])) := he
    obtain ⟨t1, t2, t3, t4⟩ := id htr
    refine q_aload hX 0 d_EF_id_0 rfl (by first | rfl | assumption) ?_
    refine r_getf hX d_EF_id_1 fl_EF_31 (by first | assumption | exact ev_set_self _ _ _ | (simp (disch := first | assumption | decide | omega) only [ev_set_self, ev_set_ne, ev_new_self, ev_new_ne]; first | done | assumption)) rfl ?_
    refine q_iload hX 1 d_EF_id_4 rfl (by first | rfl | assumption) ?_
    refine r_callV (as := [_]) hX d_EF_id_5 lk_EF_87 htr.1 rfl rfl (Nat.le_of_ble_eq_true rfl) (by decide) 0 0 (Nat.le_refl _) (Nat.le_refl _) (c_Tr_at (G := G) htr hn hsd k) (fun v w1 hq => ?_)
    obtain ⟨rfl, rfl⟩ := hq
    rw [hat]
    refine q_astoreN hX 2 d_EF_id_8 rfl (by decide) ?_
    refine q_aloadN hX 2 d_EF_id_9 rfl (by first | rfl | assumption) ?_
    refine r_ifnonnullN hX d_EF_id_10 ?_
    refine r_iconst (v := -1) hX d_EF_id_13 (by decide) ?_
    refine r_goto hX 21 d_EF_id_14 (by decide) ?_
    refine r_iret hX hR d_EF_id_21 rfl (by first | rfl | assumption) ?_
    exact ⟨by rw [hix], rfl⟩
theorem c_EF_parent {G : Ev_G} {w : Ev_W} {n sd : Nat} {L As : Nat → Option Nat} {sf : Nat → Int32} (he : is_EF w) (htr : is_Tr w n L As sf sd) (hn : n ≤ 60) (hsd : sd ≤ 1200) {m : Nat} {ad : Nat → Nat} {E : Nat → Ev_E} {PF : Nat → Nat → Int32} {mi : Nat → Option Nat} (hes : is_Es w m L ad E PF) (hm : n ≤ m) (hok : el_ok n ad E mi) (k : Int32)  : ev_Met G M_EF_parent 1 0 0 [.ref 100, .int k] w (fun v w' => v = some (.int (match ix n k with | none => -1 | some j => o_i (mi j))) ∧ w' = w) := by
  refine ev_Met.of md_EF_parent (Nat.le_of_ble_eq_true rfl) (fun X hX hR => ?_)
  rcases tr_at_cases hn hes hm k with ⟨j, hj, hkj, hix, hat⟩ | ⟨hix, hat⟩
  · obtain ⟨u1, u2, u3, u4⟩ := hes.1 j (by omega)
    obtain ⟨o1, o2, o3, o4⟩ := hok j hj
    have he0 : w.2 100 = some (.inr (0, [.ref 101, .ref 103, .ref 105, .ref 108, .ref 112, .ref 113, .ref 116])) := he
    obtain ⟨t1, t2, t3, t4⟩ := id htr
    cases hmi : mi j with
    | none =>
      rw [hmi] at o3
      have o3 : (E j).2.1 = none := o3
      refine q_aload hX 0 d_EF_parent_0 rfl (by first | rfl | assumption) ?_
      refine r_getf hX d_EF_parent_1 fl_EF_31 (by first | assumption | exact ev_set_self _ _ _ | (simp (disch := first | assumption | decide | omega) only [ev_set_self, ev_set_ne, ev_new_self, ev_new_ne]; first | done | assumption)) rfl ?_
      refine q_iload hX 1 d_EF_parent_4 rfl (by first | rfl | assumption) ?_
      refine r_callV (as := [_]) hX d_EF_parent_5 lk_EF_87 htr.1 rfl rfl (Nat.le_of_ble_eq_true rfl) (by decide) 0 0 (Nat.le_refl _) (Nat.le_refl _) (c_Tr_at (G := G) htr hn hsd k) (fun v w1 hq => ?_)
      obtain ⟨rfl, rfl⟩ := hq
      rw [hat]
      refine q_astore hX 2 d_EF_parent_8 rfl (by decide) ?_
      refine q_aload hX 2 d_EF_parent_9 rfl (by first | rfl | assumption) ?_
      refine r_ifnull hX d_EF_parent_10 ?_
      refine q_aload hX 2 d_EF_parent_13 rfl (by first | rfl | assumption) ?_
      refine r_getf hX d_EF_parent_14 fl_EF_166 (by first | assumption | exact ev_set_self _ _ _ | (simp (disch := first | assumption | decide | omega) only [ev_set_self, ev_set_ne, ev_new_self, ev_new_ne]; first | done | assumption)) rfl ?_
      rw [o3]
      refine r_ifnonnullN hX d_EF_parent_17 ?_
      refine r_iconst (v := -1) hX d_EF_parent_20 (by decide) ?_
      refine r_goto hX 31 d_EF_parent_21 (by decide) ?_
      refine r_iret hX hR d_EF_parent_31 rfl (by first | rfl | assumption) ?_
      exact ⟨by rw [hix]; dsimp only; rw [hmi]; rfl, rfl⟩
    | some q =>
      rw [hmi] at o3
      have o3 : (E j).2.1 = some (ad q) := o3
      have hq : q < n := by have := o4 q hmi; omega
      obtain ⟨x1, x2, x3, x4⟩ := hes.1 q (by omega)
      refine q_aload hX 0 d_EF_parent_0 rfl (by first | rfl | assumption) ?_
      refine r_getf hX d_EF_parent_1 fl_EF_31 (by first | assumption | exact ev_set_self _ _ _ | (simp (disch := first | assumption | decide | omega) only [ev_set_self, ev_set_ne, ev_new_self, ev_new_ne]; first | done | assumption)) rfl ?_
      refine q_iload hX 1 d_EF_parent_4 rfl (by first | rfl | assumption) ?_
      refine r_callV (as := [_]) hX d_EF_parent_5 lk_EF_87 htr.1 rfl rfl (Nat.le_of_ble_eq_true rfl) (by decide) 0 0 (Nat.le_refl _) (Nat.le_refl _) (c_Tr_at (G := G) htr hn hsd k) (fun v w1 hq => ?_)
      obtain ⟨rfl, rfl⟩ := hq
      rw [hat]
      refine q_astore hX 2 d_EF_parent_8 rfl (by decide) ?_
      refine q_aload hX 2 d_EF_parent_9 rfl (by first | rfl | assumption) ?_
      refine r_ifnull hX d_EF_parent_10 ?_
      refine q_aload hX 2 d_EF_parent_13 rfl (by first | rfl | assumption) ?_
      refine r_getf hX d_EF_parent_14 fl_EF_166 (by first | assumption | exact ev_set_self _ _ _ | (simp (disch := first | assumption | decide | omega) only [ev_set_self, ev_set_ne, ev_new_self, ev_new_ne]; first | done | assumption)) rfl ?_
      rw [o3]
      refine r_ifnonnull hX 24 d_EF_parent_17 (by decide) ?_
      refine q_aload hX 2 d_EF_parent_24 rfl (by first | rfl | assumption) ?_
      refine r_getf hX d_EF_parent_25 fl_EF_166 (by first | assumption | exact ev_set_self _ _ _ | (simp (disch := first | assumption | decide | omega) only [ev_set_self, ev_set_ne, ev_new_self, ev_new_ne]; first | done | assumption)) rfl ?_
      rw [o3]
      refine r_getf hX d_EF_parent_28 fl_EF_125 (by first | assumption | exact ev_set_self _ _ _ | (simp (disch := first | assumption | decide | omega) only [ev_set_self, ev_set_ne, ev_new_self, ev_new_ne]; first | done | assumption)) rfl ?_
      refine r_iret hX hR d_EF_parent_31 rfl (by first | rfl | assumption) ?_
      exact ⟨by rw [hix]; dsimp only; rw [hmi, (hok q hq).1]; rfl, rfl⟩
  · have he0 : w.2 100 = some (.inr (0, [.ref 101, .ref 103, .ref 105, .ref 108, .ref 112, .ref 113, .ref 116])) := he
    obtain ⟨t1, t2, t3, t4⟩ := id htr
    refine q_aload hX 0 d_EF_parent_0 rfl (by first | rfl | assumption) ?_
    refine r_getf hX d_EF_parent_1 fl_EF_31 (by first | assumption | exact ev_set_self _ _ _ | (simp (disch := first | assumption | decide | omega) only [ev_set_self, ev_set_ne, ev_new_self, ev_new_ne]; first | done | assumption)) rfl ?_
    refine q_iload hX 1 d_EF_parent_4 rfl (by first | rfl | assumption) ?_
    refine r_callV (as := [_]) hX d_EF_parent_5 lk_EF_87 htr.1 rfl rfl (Nat.le_of_ble_eq_true rfl) (by decide) 0 0 (Nat.le_refl _) (Nat.le_refl _) (c_Tr_at (G := G) htr hn hsd k) (fun v w1 hq => ?_)
    obtain ⟨rfl, rfl⟩ := hq
    rw [hat]
    refine q_astoreN hX 2 d_EF_parent_8 rfl (by decide) ?_
    refine q_aloadN hX 2 d_EF_parent_9 rfl (by first | rfl | assumption) ?_
    refine r_ifnullN hX 20 d_EF_parent_10 (by decide) ?_
    refine r_iconst (v := -1) hX d_EF_parent_20 (by decide) ?_
    refine r_goto hX 31 d_EF_parent_21 (by decide) ?_
    refine r_iret hX hR d_EF_parent_31 rfl (by first | rfl | assumption) ?_
    exact ⟨by rw [hix], rfl⟩
def ef_val (E : Nat → Ev_E) (ad : Nat → Nat) (n j : Nat) : Int64 := if so_fm (E j).1 = 0 then (nI (tr_cnt E (ad j) (tr_end (el_lev E) n j) (tr_end (el_lev E) n j - (j + 1)) (j + 1))).toInt64 else (E j).2.2.1
theorem c_EF_value {G : Ev_G} {w : Ev_W} {n sd : Nat} {L As : Nat → Option Nat} {sf : Nat → Int32} (he : is_EF w) (htr : is_Tr w n L As sf sd) (hn : n ≤ 60) (hsd : sd ≤ 1200) {m : Nat} {ad : Nat → Nat} {E : Nat → Ev_E} {PF : Nat → Nat → Int32} {mi : Nat → Option Nat} (hes : is_Es w m L ad E PF) (hm : n ≤ m) (hok : el_ok n ad E mi) (k : Int32)  : ev_Met G M_EF_value 2 0 0 [.ref 100, .int k] w (fun v w' => v = some (.long (match ix n k with | none => -1 | some j => ef_val E ad n j)) ∧ w' = w) := by
  refine ev_Met.of md_EF_value (Nat.le_of_ble_eq_true rfl) (fun X hX hR => ?_)
  rcases tr_at_cases hn hes hm k with ⟨j, hj, hkj, hix, hat⟩ | ⟨hix, hat⟩
  · obtain ⟨u1, u2, u3, u4⟩ := hes.1 j (by omega)
    obtain ⟨o1, o2, o3, o4⟩ := hok j hj
    have he0 : w.2 100 = some (.inr (0, [.ref 101, .ref 103, .ref 105, .ref 108, .ref 112, .ref 113, .ref 116])) := he
    obtain ⟨t1, t2, t3, t4⟩ := id htr
    refine q_aload hX 0 d_EF_value_0 rfl (by first | rfl | assumption) ?_
    refine r_getf hX d_EF_value_1 fl_EF_31 (by first | assumption | exact ev_set_self _ _ _ | (simp (disch := first | assumption | decide | omega) only [ev_set_self, ev_set_ne, ev_new_self, ev_new_ne]; first | done | assumption)) rfl ?_
    refine q_iload hX 1 d_EF_value_4 rfl (by first | rfl | assumption) ?_
    refine r_callV (as := [_]) hX d_EF_value_5 lk_EF_87 htr.1 rfl rfl (Nat.le_of_ble_eq_true rfl) (by decide) 0 0 (Nat.le_refl _) (Nat.le_refl _) (c_Tr_at (G := G) htr hn hsd k) (fun v w1 hq => ?_)
    obtain ⟨rfl, rfl⟩ := hq
    rw [hat]
    refine q_astore hX 2 d_EF_value_8 rfl (by decide) ?_
    refine q_aload hX 2 d_EF_value_9 rfl (by first | rfl | assumption) ?_
    refine r_ifnonnull hX 17 d_EF_value_10 (by decide) ?_
    refine q_aload hX 2 d_EF_value_17 rfl (by first | rfl | assumption) ?_
    refine r_getf hX d_EF_value_18 fl_EF_128 (by first | assumption | exact ev_set_self _ _ _ | (simp (disch := first | assumption | decide | omega) only [ev_set_self, ev_set_ne, ev_new_self, ev_new_ne]; first | done | assumption)) rfl ?_
    refine r_getE hX d_EF_value_21 o2 (q := ev_fl[1]) (by decide) m_875 ?_
    refine r_if_ne hX 39 d_EF_value_24 (by decide) (fun c24 => ?_) (fun c24 => ?_)
    · refine q_aload hX 2 d_EF_value_39 rfl (by first | rfl | assumption) ?_
      refine r_getf hX d_EF_value_40 fl_EF_119 (by first | assumption | exact ev_set_self _ _ _ | (simp (disch := first | assumption | decide | omega) only [ev_set_self, ev_set_ne, ev_new_self, ev_new_ne]; first | done | assumption)) rfl ?_
      refine r_lret hX hR d_EF_value_43 rfl ?_
      exact ⟨by rw [hix]; dsimp only; rw [ef_val, if_neg (show ¬ so_fm (E j).1 = 0 from c24)], rfl⟩
    · refine q_aload hX 0 d_EF_value_27 rfl (by first | rfl | assumption) ?_
      refine r_getf hX d_EF_value_28 fl_EF_31 (by first | assumption | exact ev_set_self _ _ _ | (simp (disch := first | assumption | decide | omega) only [ev_set_self, ev_set_ne, ev_new_self, ev_new_ne]; first | done | assumption)) rfl ?_
      refine q_aload hX 2 d_EF_value_31 rfl (by first | rfl | assumption) ?_
      refine r_callV (as := [_]) hX d_EF_value_32 lk_EF_172 t1 rfl rfl (Nat.le_of_ble_eq_true rfl) (by decide) 0 0 (Nat.le_refl _) (Nat.le_refl _) (c_Tr_childrenOf (G := G) htr hn hsd hes hm hj o1 (fun i hi => by intro r h; obtain ⟨p1, p2, p3, p4⟩ := hok i hi; rw [p3] at h; cases hq : mi i with | none => rw [hq] at h; cases h | some q => rw [hq] at h; have hh := (hes.1 q (by have := p4 q hq; omega)).2.1; have : ad q = r := Option.some.inj h; omega)) (fun v w1 hq => ?_)
      obtain ⟨rfl, rfl⟩ := hq
      refine r_i2l hX d_EF_value_35 ?_
      refine r_goto hX 43 d_EF_value_36 (by decide) ?_
      refine r_lret hX hR d_EF_value_43 rfl ?_
      exact ⟨by rw [hix]; dsimp only; rw [ef_val, if_pos (show so_fm (E j).1 = 0 from c24)], rfl⟩
  · have he0 : w.2 100 = some (.inr (0, [.ref 101, .ref 103, .ref 105, .ref 108, .ref 112, .ref 113, .ref 116])) := he
    obtain ⟨t1, t2, t3, t4⟩ := id htr
    refine q_aload hX 0 d_EF_value_0 rfl (by first | rfl | assumption) ?_
    refine r_getf hX d_EF_value_1 fl_EF_31 (by first | assumption | exact ev_set_self _ _ _ | (simp (disch := first | assumption | decide | omega) only [ev_set_self, ev_set_ne, ev_new_self, ev_new_ne]; first | done | assumption)) rfl ?_
    refine q_iload hX 1 d_EF_value_4 rfl (by first | rfl | assumption) ?_
    refine r_callV (as := [_]) hX d_EF_value_5 lk_EF_87 htr.1 rfl rfl (Nat.le_of_ble_eq_true rfl) (by decide) 0 0 (Nat.le_refl _) (Nat.le_refl _) (c_Tr_at (G := G) htr hn hsd k) (fun v w1 hq => ?_)
    obtain ⟨rfl, rfl⟩ := hq
    rw [hat]
    refine q_astoreN hX 2 d_EF_value_8 rfl (by decide) ?_
    refine q_aloadN hX 2 d_EF_value_9 rfl (by first | rfl | assumption) ?_
    refine r_ifnonnullN hX d_EF_value_10 ?_
    refine r_ldc2 hX d_EF_value_13 m_441 ?_
    refine r_lret hX hR d_EF_value_16 rfl ?_
    exact ⟨by rw [hix], rfl⟩
