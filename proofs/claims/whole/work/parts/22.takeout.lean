/-! ===== Tree: weigh, takeOut ===== -/
def tr_wb (E : Nat → Ev_E) (a s i : Nat) (b : Bool) : Bool := if (E i).2.1 = some a then decide ((E i).1 = s) else b
def tr_wg (E : Nat → Ev_E) (a s : Nat) : Nat → Nat → Bool → Nat
  | 0, _, _ => 0
  | f + 1, i, b => (if tr_wb E a s i b = true then 1 else 0) + tr_wg E a s f (i + 1) (tr_wb E a s i b)
theorem tr_wg_le (E : Nat → Ev_E) (a s : Nat) : ∀ (f i : Nat) (b : Bool), tr_wg E a s f i b ≤ f
  | 0, _, _ => Nat.le_refl _
  | f + 1, i, b => by
    unfold tr_wg
    have := tr_wg_le E a s f (i + 1) (tr_wb E a s i b)
    split <;> omega
theorem c_Tr_weigh {G : Ev_G} {w : Ev_W} {n sd : Nat} {L As : Nat → Option Nat} {sf : Nat → Int32} {m : Nat} {ad : Nat → Nat} {E : Nat → Ev_E} {PF : Nat → Nat → Int32} {mi : Nat → Option Nat} (htr : is_Tr w n L As sf sd) (hn : n ≤ 60) (hsd : sd ≤ 1200) (hes : is_Es w m L ad E PF) (hm : n ≤ m) (hok : el_ok n ad E mi) {k s : Nat} (hk : k < n) (hs : s < 17) : ev_Met G M_Tr_weigh 1 0 0 [.ref 108, .ref (ad k), .ref s] w (fun v w' => v = some (.int (nI (tr_wg E (ad k) s (tr_end (el_lev E) n k - (k + 1)) (k + 1) false))) ∧ w' = w) := by
  have htr0 := htr
  obtain ⟨t1, t2, t3, t4⟩ := htr
  have hn31 : n < 2 ^ 31 := by omega
  have hmok := mk_ok hes hm hok
  obtain ⟨k1, k2, k3, k4⟩ := hes.1 k (by omega)
  have heN : tr_end (el_lev E) n k ≤ n := tr_go_le _ _ _ _ _ (by omega)
  have heK : k + 1 ≤ tr_end (el_lev E) n k := tr_go_ge _ _ _ _ _
  obtain ⟨e, hee⟩ : ∃ e, e = tr_end (el_lev E) n k := ⟨_, rfl⟩
  rw [← hee] at heN heK
  refine ev_Met.of md_Tr_weigh (Nat.le_of_ble_eq_true rfl) (fun X hX hR => ?_)
  have loop : ∀ (f i c : Nat) (b : Bool) (ls : Ev_L), i + f = e → c + tr_wg E (ad k) s f i b = tr_wg E (ad k) s (e - (k + 1)) (k + 1) false → c ≤ i → ls.1 0 = some (.ref 108) → ls.1 1 = some (.ref (ad k)) → ls.1 2 = some (.ref s) → ls.1 3 = some (.int (nI c)) → ls.1 4 = some (.int (b_i b)) → ls.1 5 = some (.int (nI e)) → ls.1 6 = some (.int (nI i)) → ev_W G M_Tr_weigh X 0 0 20 ls [] w := by
    intro f
    induction f with
    | zero =>
      intro i c b ls e1 e2 e3 l0 l1 l2 l3 l4 l5 l6
      refine r_iload hX d_Tr_weigh_20 (by first | rfl | assumption) ?_
      refine r_iload hX d_Tr_weigh_22 (by first | rfl | assumption) ?_
      refine r_icmp_ge hX 76 d_Tr_weigh_24 (by decide) (fun _ => ?_) (fun c24 => absurd (nI_le (by omega) (by omega)) c24)
      refine q_iload hX 3 d_Tr_weigh_76 rfl (by first | rfl | assumption) ?_
      refine r_iret hX hR d_Tr_weigh_77 rfl (by first | rfl | assumption) ?_
      exact ⟨by rw [← hee, ← e2]; rfl, rfl⟩
    | succ f ih =>
      intro i c b ls e1 e2 e3 l0 l1 l2 l3 l4 l5 l6
      have hi : i < n := by omega
      obtain ⟨u1, u2, u3, u4⟩ := hes.1 i (by omega)
      obtain ⟨o1, o2, o3, o4⟩ := hok i hi
      have hmo := hmok i hi
      have hcl : (nI i).toNatClampNeg = i := nI_clamp (by omega)
      have tail : ∀ (b2 : Bool) (ls : Ev_L), b2 = tr_wb E (ad k) s i b → ls.1 0 = some (.ref 108) → ls.1 1 = some (.ref (ad k)) → ls.1 2 = some (.ref s) → ls.1 3 = some (.int (nI c)) → ls.1 4 = some (.int (b_i b2)) → ls.1 5 = some (.int (nI e)) → ls.1 6 = some (.int (nI i)) → ev_W G M_Tr_weigh X 0 0 62 ls [] w := by
        intro b2 ls hb2 l0 l1 l2 l3 l4 l5 l6
        refine r_iload hX d_Tr_weigh_62 (by first | rfl | assumption) ?_
        refine r_if_eq hX 70 d_Tr_weigh_64 (by decide) (fun c64 => ?_) (fun c64 => ?_)
        · refine r_iinc hX d_Tr_weigh_70 (by first | rfl | assumption) ?_
          refine r_goto hX 20 d_Tr_weigh_73 (by decide) ?_
          exact ih (i + 1) c b2 _ (by omega) (by rw [← e2, tr_wg, ← hb2, if_neg (by rw [b_i_0 c64]; decide)]; omega) (by omega) l0 l1 l2 l3 l4 l5 (by show some (Value.int (nI i + Int32.ofInt 1)) = _; rw [show Int32.ofInt 1 = 1 from rfl, nI_1])
        · refine r_iinc hX d_Tr_weigh_67 (by first | rfl | assumption) ?_
          refine r_iinc hX d_Tr_weigh_70 (by first | rfl | assumption) ?_
          refine r_goto hX 20 d_Tr_weigh_73 (by decide) ?_
          exact ih (i + 1) (c + 1) b2 _ (by omega) (by rw [← e2, tr_wg, ← hb2, if_pos (b_i_1 c64)]; omega) (by omega) l0 l1 l2 (by show some (Value.int (nI c + Int32.ofInt 1)) = _; rw [show Int32.ofInt 1 = 1 from rfl, nI_1]) l4 l5 (by show some (Value.int (nI i + Int32.ofInt 1)) = _; rw [show Int32.ofInt 1 = 1 from rfl, nI_1])
      refine r_iload hX d_Tr_weigh_20 (by first | rfl | assumption) ?_
      refine r_iload hX d_Tr_weigh_22 (by first | rfl | assumption) ?_
      refine r_icmp_ge hX 76 d_Tr_weigh_24 (by decide) (fun c24 => absurd c24 (nI_ge (by omega) (by omega))) (fun _ => ?_)
      refine q_aload hX 0 d_Tr_weigh_27 rfl (by first | rfl | assumption) ?_
      refine r_getf hX d_Tr_weigh_28 fl_Tr_11 (by first | assumption | exact ev_set_self _ _ _ | (simp (disch := first | assumption | decide | omega) only [ev_set_self, ev_set_ne, ev_new_self, ev_new_ne]; first | done | assumption)) rfl ?_
      refine r_iload hX d_Tr_weigh_31 (by first | rfl | assumption) ?_
      refine r_aald hX d_Tr_weigh_33 (by first | assumption | exact ev_set_self _ _ _ | (simp (disch := first | assumption | decide | omega) only [ev_set_self, ev_set_ne, ev_new_self, ev_new_ne]; first | done | assumption)) rfl (vp_in_nI (by omega) (by decide)) ?_
      rw [hcl, u1]
      refine r_getf hX d_Tr_weigh_34 fl_Tr_41 (by first | assumption | exact ev_set_self _ _ _ | (simp (disch := first | assumption | decide | omega) only [ev_set_self, ev_set_ne, ev_new_self, ev_new_ne]; first | done | assumption)) rfl ?_
      refine q_aload hX 1 d_Tr_weigh_37 rfl (by first | rfl | assumption) ?_
      refine r_acmp_ne (u := some (ad k)) hX 62 hmo (by intro r h; cases h; omega) d_Tr_weigh_38 (by decide) (fun c38 => ?_) (fun c38 => ?_)
      · exact tail b _ (by rw [tr_wb, if_neg c38]) l0 l1 l2 l3 l4 l5 l6
      · refine q_aload hX 0 d_Tr_weigh_41 rfl (by first | rfl | assumption) ?_
        refine r_getf hX d_Tr_weigh_42 fl_Tr_11 (by first | assumption | exact ev_set_self _ _ _ | (simp (disch := first | assumption | decide | omega) only [ev_set_self, ev_set_ne, ev_new_self, ev_new_ne]; first | done | assumption)) rfl ?_
        refine r_iload hX d_Tr_weigh_45 (by first | rfl | assumption) ?_
        refine r_aald hX d_Tr_weigh_47 (by first | assumption | exact ev_set_self _ _ _ | (simp (disch := first | assumption | decide | omega) only [ev_set_self, ev_set_ne, ev_new_self, ev_new_ne]; first | done | assumption)) rfl (vp_in_nI (by omega) (by decide)) ?_
        rw [hcl, u1]
        refine r_getf hX d_Tr_weigh_48 fl_Tr_55 (by first | assumption | exact ev_set_self _ _ _ | (simp (disch := first | assumption | decide | omega) only [ev_set_self, ev_set_ne, ev_new_self, ev_new_ne]; first | done | assumption)) rfl ?_
        refine q_aload hX 2 d_Tr_weigh_51 rfl (by first | rfl | assumption) ?_
        refine r_acmp_ne (o := some (E i).1) (u := some s) hX 59 (by intro r h; cases h; exact Or.inl o2) (by intro r h; cases h; exact Or.inl hs) d_Tr_weigh_52 (by decide) (fun c52 => ?_) (fun c52 => ?_)
        · refine r_iconst (v := 0) hX d_Tr_weigh_59 (by decide) ?_
          refine r_istore hX d_Tr_weigh_60 (by decide) ?_
          exact tail false _ (by rw [tr_wb, if_pos c38, decide_eq_false (fun z => c52 (by rw [z]))]) l0 l1 l2 l3 rfl l5 l6
        · refine r_iconst (v := 1) hX d_Tr_weigh_55 (by decide) ?_
          refine r_goto hX 60 d_Tr_weigh_56 (by decide) ?_
          refine r_istore hX d_Tr_weigh_60 (by decide) ?_
          exact tail true _ (by rw [tr_wb, if_pos c38, decide_eq_true (Option.some.inj c52)]) l0 l1 l2 l3 rfl l5 l6
  refine r_iconst (v := 0) hX d_Tr_weigh_0 (by decide) ?_
  refine q_istore hX 3 d_Tr_weigh_1 rfl (by decide) ?_
  refine r_iconst (v := 0) hX d_Tr_weigh_2 (by decide) ?_
  refine r_istore hX d_Tr_weigh_3 (by decide) ?_
  refine q_aload hX 0 d_Tr_weigh_5 rfl (by first | rfl | assumption) ?_
  refine q_aload hX 1 d_Tr_weigh_6 rfl (by first | rfl | assumption) ?_
  refine r_callV (as := [_]) hX d_Tr_weigh_7 lk_Tr_37 t1 rfl rfl (Nat.le_of_ble_eq_true rfl) (by decide) 0 0 (Nat.le_refl _) (Nat.le_refl _) (c_Tr_endOf (G := G) htr0 hn hsd hes hm hk (hok k hk).1) (fun v w1 hq => ?_)
  obtain ⟨rfl, hw0⟩ := hq
  rw [hw0]
  refine r_istore hX d_Tr_weigh_10 (by decide) ?_
  refine q_aload hX 1 d_Tr_weigh_12 rfl (by first | rfl | assumption) ?_
  refine r_getf hX d_Tr_weigh_13 fl_Tr_31 (by first | assumption | exact ev_set_self _ _ _ | (simp (disch := first | assumption | decide | omega) only [ev_set_self, ev_set_ne, ev_new_self, ev_new_ne]; first | done | assumption)) rfl ?_
  rw [(hok k hk).1, ← hee]
  refine r_iconst (v := 1) hX d_Tr_weigh_16 (by decide) ?_
  refine r_iadd hX d_Tr_weigh_17 ?_
  refine r_istore hX d_Tr_weigh_18 (by decide) ?_
  exact loop (e - (k + 1)) (k + 1) 0 false _ (by omega) (by omega) (by omega) rfl rfl rfl rfl rfl rfl (by show some (Value.int (nI k + 1)) = _; rw [nI_1])
def tk_b (E : Nat → Ev_E) (a s e i : Nat) (b : Bool) : Bool := if e ≤ i then false else tr_wb E a s i b
/-- which places stay, and which go, from i on -/
def tk (E : Nat → Ev_E) (a s e : Nat) : Nat → Nat → Bool → List Nat × List Nat
  | 0, _, _ => ([], [])
  | f + 1, i, b => if tk_b E a s e i b = true then ((tk E a s e f (i + 1) (tk_b E a s e i b)).1, i :: (tk E a s e f (i + 1) (tk_b E a s e i b)).2) else (i :: (tk E a s e f (i + 1) (tk_b E a s e i b)).1, (tk E a s e f (i + 1) (tk_b E a s e i b)).2)
theorem tk_perm (E : Nat → Ev_E) (a s e : Nat) : ∀ (f i : Nat) (b : Bool), ((tk E a s e f i b).1 ++ (tk E a s e f i b).2).Perm (List.range' i f)
  | 0, i, b => by simp [tk]
  | f + 1, i, b => by
    have ih := tk_perm E a s e f (i + 1) (tk_b E a s e i b)
    unfold tk
    rw [List.range'_succ]
    split
    · exact List.perm_middle.trans (List.Perm.cons i ih)
    · exact List.Perm.cons i ih
/-- all places behind takeOut: those that stayed, then those that went -/
def tk_K (E : Nat → Ev_E) (a s n k : Nat) : List Nat := List.range (k + 1) ++ (tk E a s (tr_end (el_lev E) n k) (n - (k + 1)) (k + 1) false).1
def tk_G (E : Nat → Ev_E) (a s n k : Nat) : List Nat := (tk E a s (tr_end (el_lev E) n k) (n - (k + 1)) (k + 1) false).2
theorem tk_all (E : Nat → Ev_E) (a s : Nat) {n k : Nat} (hk : k < n) : (tk_K E a s n k ++ tk_G E a s n k).Perm (List.range n) := by
  have h := tk_perm E a s (tr_end (el_lev E) n k) (n - (k + 1)) (k + 1) false
  have e : List.range n = List.range (k + 1) ++ List.range' (k + 1) (n - (k + 1)) := by
    rw [List.range_eq_range', List.range_eq_range', show (k + 1 : Nat) = 0 + 1 * (k + 1) by omega]
    rw [show List.range' (0 + 1 * (k + 1)) (n - (0 + 1 * (k + 1))) = List.range' (0 + 1 * (0 + 1 * (k + 1))) (n - (0 + 1 * (k + 1))) by congr 1; omega, List.range'_append]
    congr 1
    omega
  rw [e]
  unfold tk_K tk_G
  rw [List.append_assoc]
  exact List.Perm.append_left _ h
theorem tk_inj {l : List Nat} {n : Nat} (h : l.Perm (List.range n)) : l.length = n ∧ (∀ (t : Nat), t < n → l.getD t 0 < n) ∧ ∀ (t u : Nat), t < n → u < n → l.getD t 0 = l.getD u 0 → t = u := by
  have hl : l.length = n := by rw [h.length_eq, List.length_range]
  have hd : l.Nodup := h.nodup_iff.mpr List.nodup_range
  refine ⟨hl, fun t ht => ?_, fun t u ht hu e => ?_⟩
  · have hm : l.getD t 0 ∈ l := by
      rw [List.getD_eq_getElem?_getD, List.getElem?_eq_getElem (by omega)]
      exact List.getElem_mem _
    exact List.mem_range.mp (h.mem_iff.mp hm)
  · rw [List.getD_eq_getElem?_getD, List.getD_eq_getElem?_getD, List.getElem?_eq_getElem (by omega), List.getElem?_eq_getElem (by omega)] at e
    have hp := List.pairwise_iff_getElem.mp hd
    rcases Nat.lt_trichotomy t u with z | z | z
    · exact absurd e (hp t u (by omega) (by omega) z)
    · exact z
    · exact absurd e.symm (hp u t (by omega) (by omega) z)
